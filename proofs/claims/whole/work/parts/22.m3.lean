theorem c_peopleOn {d : Nat} {mi : MI} {mr : MR} (hM : MB mr) {x : Int32} {n : Nat} (hn : mi 1 2 = nI n) (hn6 : n ≤ 6) : CP (d + 1) mX12_peopleOn [.ref 0, .int x] shM mi mr 0 0 (PI (nI (cntB (fun p => decide (spt (mi 1) p = x)) n)) shM mi mr) := by
  refine CP.of (L := [_, _, _, _]) (by decide) rfl rfl (Nat.le_of_ble_eq_true rfl) ?_
  refine r_iconst (μ := mX12_peopleOn) (pc := 0) (v := 0) dX12_peopleOn_0 ic_0 ?_
  refine s_istore_n (μ := mX12_peopleOn) (pc := 1) (L2 := [_, _, _, _]) dX12_peopleOn_1 rfl (Nat.le_of_ble_eq_true rfl) (Nat.le_of_ble_eq_true rfl) rfl rfl ?_
  refine r_iconst (μ := mX12_peopleOn) (pc := 2) (v := 0) dX12_peopleOn_2 ic_0 ?_
  refine s_istore_n (μ := mX12_peopleOn) (pc := 3) (L2 := [_, _, _, _]) dX12_peopleOn_3 rfl (Nat.le_of_ble_eq_true rfl) (Nat.le_of_ble_eq_true rfl) rfl rfl ?_
  exact lp_peopleOn hM hn hn6 (PI_i rfl) n 0 (Nat.zero_add _)

theorem c_deal_bad {d : Nat} {mi : MI} {mr : MR} (hM : MB mr) {x : Int32} (hb : ¬ inB x 1 10 = true) : CP (d + 2) mX12_deal [.ref 0, .int x] shM mi mr 0 0 (PI (BADc) shM mi mr) := by
  refine CP.of (L := [_, _, _, _]) (by decide) rfl rfl (Nat.le_of_ble_eq_true rfl) ?_
  refine r_iload_n (μ := mX12_deal) (pc := 0) dX12_deal_0 rfl rfl ?_
  refine r_i2l (μ := mX12_deal) (pc := 1) dX12_deal_1 ?_
  refine r_lconst (μ := mX12_deal) (pc := 2) (v := 1) dX12_deal_2 lc_1 ?_
  refine r_ldc2 (μ := mX12_deal) (pc := 3) dX12_deal_3 clX12_100 ?_
  refine sP3 (μ := mX12_deal) (pc := 6) (μ2 := mX12_isIn) dX12_deal_6 lkX12_65 stX12_isIn mwX12_isIn (Nat.le_of_ble_eq_true rfl) (c_isInK il_1 il_10) ?_
  refine r_if_ne (μ := mX12_deal) (pc := 9) (tgt := 15) dX12_deal_9 (by decide) (fun h_9 => ?_) (fun h_9 => ?_)
  · have h_9 := b2i_1 h_9
    exact absurd h_9 hb
  · have h_9 := b2i_0 h_9
    refine r_ldc (μ := mX12_deal) (pc := 12) dX12_deal_12 ctX12_78 ?_
    exact r_iret (μ := mX12_deal) (pc := 14) dX12_deal_14 rfl rfl (PI_i rfl)

theorem lp_deal {d : Nat} {mi : MI} {mr : MR} {Q : QT} (hM : MB mr) {n K c : Nat} (hn : mi 1 0 = nI n) (hn10 : n ≤ 10) (hK : K ≤ 10) (hc : c = min K (10 - n)) (hq : Q (some (.int (nI c))) shM (dealK mi n c) mr) : ∀ (k i : Nat), i + k = c → ∀ x3 : Value, catL x3 = true → WP (d + 2) mX12_deal 17 [.ref 0, .int (nI K), .int (nI i), x3] [] shM (dealK mi n i) mr 0 0 Q := by
  intro k
  induction k with
  | zero =>
    intro i hk x3 hx3
    obtain rfl : i = c := by omega
    have hn2 := dealK_n hn i
    refine r_iload_n (μ := mX12_deal) (pc := 17) dX12_deal_17 rfl rfl ?_
    refine r_iload_n (μ := mX12_deal) (pc := 18) dX12_deal_18 rfl rfl ?_
    refine r_icmp_ge (μ := mX12_deal) (pc := 19) (tgt := 59) dX12_deal_19 (by decide) (fun h_19 => ?_) (fun h_19 => ?_)
    · refine r_iload_n (μ := mX12_deal) (pc := 59) dX12_deal_59 rfl rfl ?_
      exact r_iret (μ := mX12_deal) (pc := 60) dX12_deal_60 rfl rfl hq
    · refine r_aload_n (μ := mX12_deal) (pc := 22) dX12_deal_22 rfl rfl rfl ?_
      refine r_getR (μ := mX12_deal) (pc := 23) dX12_deal_23 fpX12_7 rfl rfl (by decide) (hM _ _ rfl) ?_
      refine r_iconst (μ := mX12_deal) (pc := 26) (v := 0) dX12_deal_26 ic_0 ?_
      refine r_iaload (μ := mX12_deal) (pc := 27) (j := 0) dX12_deal_27 rfl rfl (by decide) (by decide) ?_
      rw [hn2]
      refine r_bipush (μ := mX12_deal) (pc := 28) (v := 10) dX12_deal_28 bp_10 ?_
      refine r_icmp_ge (μ := mX12_deal) (pc := 30) (tgt := 59) dX12_deal_30 (by decide) (fun h_30 => ?_) (fun h_30 => ?_)
      · refine r_iload_n (μ := mX12_deal) (pc := 59) dX12_deal_59 rfl rfl ?_
        exact r_iret (μ := mX12_deal) (pc := 60) dX12_deal_60 rfl rfl hq
      · exact absurd (nI_leC (a := 10) rfl (by have h9 : ¬ nI K ≤ nI i := h_19; rw [nI_leI (by omega) (by omega)] at h9; omega) (by omega)) h_30
  | succ k ih =>
    intro i hk x3 hx3
    have hn2 := dealK_n hn i
    refine r_iload_n (μ := mX12_deal) (pc := 17) dX12_deal_17 rfl rfl ?_
    refine r_iload_n (μ := mX12_deal) (pc := 18) dX12_deal_18 rfl rfl ?_
    refine r_icmp_ge (μ := mX12_deal) (pc := 19) (tgt := 59) dX12_deal_19 (by decide) (fun h_19 => absurd h_19 (nI_ge (by omega) (by omega))) (fun h_19 => ?_)
    refine r_aload_n (μ := mX12_deal) (pc := 22) dX12_deal_22 rfl rfl rfl ?_
    refine r_getR (μ := mX12_deal) (pc := 23) dX12_deal_23 fpX12_7 rfl rfl (by decide) (hM _ _ rfl) ?_
    refine r_iconst (μ := mX12_deal) (pc := 26) (v := 0) dX12_deal_26 ic_0 ?_
    refine r_iaload (μ := mX12_deal) (pc := 27) (j := 0) dX12_deal_27 rfl rfl (by decide) (by decide) ?_
    rw [hn2]
    refine r_bipush (μ := mX12_deal) (pc := 28) (v := 10) dX12_deal_28 bp_10 ?_
    refine r_icmp_ge (μ := mX12_deal) (pc := 30) (tgt := 59) dX12_deal_30 (by decide) (fun h_30 => absurd h_30 (nI_geC (b := 10) rfl (by omega) (by decide))) (fun h_30 => ?_)
    refine r_aload_n (μ := mX12_deal) (pc := 33) dX12_deal_33 rfl rfl rfl ?_
    refine vX0 (μ := mX12_deal) (pc := 34) (c0 := 12) (q0 := (RX12, TX12, 34)) (μ2 := mX12_drawn) dX12_deal_34 rfl rfl lkX12_102 imX12_drawn seX12_X12_drawn_X12_drawn mwX12_drawn (Nat.le_of_ble_eq_true rfl) (c_drawn hM) (fun r_34 mi_34 h_34 => ?_)
    obtain ⟨rfl, rfl⟩ := h_34
    refine r_bipush (μ := mX12_deal) (pc := 37) (v := 100) dX12_deal_37 bp_100 ?_
    refine r_irem (μ := mX12_deal) (pc := 39) dX12_deal_39 (by decide) ?_
    refine s_istore_n (μ := mX12_deal) (pc := 40) (L2 := [_, _, _, _]) dX12_deal_40 rfl (Nat.le_of_ble_eq_true rfl) (Nat.le_of_ble_eq_true rfl) (by simp only [List.all_cons, List.all_nil, catL_i, catL_r, hx3, Bool.and_self]) rfl ?_
    refine r_aload_n (μ := mX12_deal) (pc := 41) dX12_deal_41 rfl rfl rfl ?_
    refine r_iload_n (μ := mX12_deal) (pc := 42) dX12_deal_42 rfl rfl ?_
    refine r_aload_n (μ := mX12_deal) (pc := 43) dX12_deal_43 rfl rfl rfl ?_
    refine vX0 (μ := mX12_deal) (pc := 44) (c0 := 12) (q0 := (RX12, TX12, 34)) (μ2 := mX12_drawn) dX12_deal_44 rfl rfl lkX12_102 imX12_drawn seX12_X12_drawn_X12_drawn mwX12_drawn (Nat.le_of_ble_eq_true rfl) (c_drawn hM) (fun r_44 mi_44 h_44 => ?_)
    obtain ⟨rfl, rfl⟩ := h_44
    refine r_bipush (μ := mX12_deal) (pc := 47) (v := 30) dX12_deal_47 bp_30 ?_
    refine r_irem (μ := mX12_deal) (pc := 49) dX12_deal_49 (by decide) ?_
    refine vV2 (μ := mX12_deal) (pc := 50) (c0 := 12) (q0 := (RX12, TX12, 34)) (μ2 := mX12_comes) dX12_deal_50 rfl rfl lkX12_80 imX12_comes seX12_X12_comes_X12_comes mwX12_comes (Nat.le_of_ble_eq_true rfl) (c_comes (n := n + i) hM (by rw [up_ne (by omega), up_ne (by omega)]; exact hn2) (by omega)) (fun mi_50 h_50 => ?_)
    subst h_50
    refine s_iinc (μ := mX12_deal) (pc := 53) (c := 1) (L2 := [_, _, _, _]) dX12_deal_53 rfl ic_1 (Nat.le_of_ble_eq_true rfl) (by simp only [List.all_cons, List.all_nil, catL_i, catL_r, hx3, Bool.and_self]) rfl ?_
    refine r_goto (μ := mX12_deal) (pc := 56) (tgt := 17) dX12_deal_56 (by decide) ?_
    exact WP.LM (by simp only [nI_succ, remS]) (by rw [up_eq]; rfl) (ih (i + 1) (by omega) (.int (remS (drw (nz (dealK mi n i 1 6))) 100)) rfl)

theorem c_deal {d : Nat} {mi : MI} {mr : MR} (hM : MB mr) {n K : Nat} (hn : mi 1 0 = nI n) (hn10 : n ≤ 10) (h1 : 1 ≤ K) (hK : K ≤ 10) : CP (d + 2) mX12_deal [.ref 0, .int (nI K)] shM mi mr 0 0 (PX shM mr (fun r mi2 => r = nI (min K (10 - n)) ∧ mi2 = dealK mi n (min K (10 - n)))) := by
  refine CP.of (L := [_, _, _, _]) (by decide) rfl rfl (Nat.le_of_ble_eq_true rfl) ?_
  refine r_iload_n (μ := mX12_deal) (pc := 0) dX12_deal_0 rfl rfl ?_
  refine r_i2l (μ := mX12_deal) (pc := 1) dX12_deal_1 ?_
  refine r_lconst (μ := mX12_deal) (pc := 2) (v := 1) dX12_deal_2 lc_1 ?_
  refine r_ldc2 (μ := mX12_deal) (pc := 3) dX12_deal_3 clX12_100 ?_
  refine sP3 (μ := mX12_deal) (pc := 6) (μ2 := mX12_isIn) dX12_deal_6 lkX12_65 stX12_isIn mwX12_isIn (Nat.le_of_ble_eq_true rfl) (c_isInK il_1 il_10) ?_
  refine r_if_ne (μ := mX12_deal) (pc := 9) (tgt := 15) dX12_deal_9 (by decide) (fun h_9 => ?_) (fun h_9 => absurd h_9 (b2i_ne (inB_nI (by omega) (by omega))))
  refine r_iconst (μ := mX12_deal) (pc := 15) (v := 0) dX12_deal_15 ic_0 ?_
  refine s_istore_n (μ := mX12_deal) (pc := 16) (L2 := [_, _, _, _]) dX12_deal_16 rfl (Nat.le_of_ble_eq_true rfl) (Nat.le_of_ble_eq_true rfl) rfl rfl ?_
  exact lp_deal hM hn hn10 hK rfl (PX_i ⟨rfl, rfl⟩) _ 0 (Nat.zero_add _) _ rfl

theorem c_seed {d : Nat} {mi : MI} {mr : MR} (hM : MB mr) {v : Int32} : CP (d + 1) mX12_seed [.ref 0, .int v] shM mi mr 0 0 (PX shM mr (fun r mi2 => r = mi 1 6 ∧ mi2 = upI mi 1 6 v)) := by
  refine CP.of (L := [_, _]) (by decide) rfl rfl (Nat.le_of_ble_eq_true rfl) ?_
  refine r_aload_n (μ := mX12_seed) (pc := 0) dX12_seed_0 rfl rfl rfl ?_
  refine r_bipush (μ := mX12_seed) (pc := 1) (v := 6) dX12_seed_1 bp_6 ?_
  refine r_iload_n (μ := mX12_seed) (pc := 3) dX12_seed_3 rfl rfl ?_
  refine vX2 (μ := mX12_seed) (pc := 4) (c0 := 12) (q0 := (RX12, TX12, 34)) (μ2 := mX12_becomes) dX12_seed_4 rfl rfl lkX12_97 imX12_becomes seX12_X12_becomes_X12_becomes mwX12_becomes (Nat.le_of_ble_eq_true rfl) (c_becomesE hM (k := 6) rfl (by omega)) (fun r_4 mi_4 h_4 => ?_)
  exact r_iret (μ := mX12_seed) (pc := 7) dX12_seed_7 rfl rfl (PX_i h_4)

theorem c_ladder_bad {d : Nat} {mi : MI} {mr : MR} (hM : MB mr) {n : Nat} (hn : mi 1 0 = nI n) (hn10 : n ≤ 10) {k g f t : Int32} (hb : ¬ (inB k 0 5 = true ∧ inB g 1 99 = true ∧ inR f n = true ∧ inR t n = true ∧ ¬ f = t)) : CP (d + 2) mX12_ladder [.ref 0, .int k, .int g, .int f, .int t] shM mi mr 0 0 (PI (BADc) shM mi mr) := by
  refine CP.of (L := [_, _, _, _, _, _]) (by decide) rfl rfl (Nat.le_of_ble_eq_true rfl) ?_
  refine r_iload_n (μ := mX12_ladder) (pc := 0) dX12_ladder_0 rfl rfl ?_
  refine r_i2l (μ := mX12_ladder) (pc := 1) dX12_ladder_1 ?_
  refine r_lconst (μ := mX12_ladder) (pc := 2) (v := 0) dX12_ladder_2 lc_0 ?_
  refine r_ldc2 (μ := mX12_ladder) (pc := 3) dX12_ladder_3 clX12_106 ?_
  refine sP3 (μ := mX12_ladder) (pc := 6) (μ2 := mX12_isIn) dX12_ladder_6 lkX12_65 stX12_isIn mwX12_isIn (Nat.le_of_ble_eq_true rfl) (c_isInK il_0 il_5) ?_
  refine r_if_eq (μ := mX12_ladder) (pc := 9) (tgt := 47) dX12_ladder_9 (by decide) (fun h_9 => ?_) (fun h_9 => ?_)
  · have h_9 := b2i_0 h_9
    refine r_ldc (μ := mX12_ladder) (pc := 47) dX12_ladder_47 ctX12_78 ?_
    exact r_iret (μ := mX12_ladder) (pc := 49) dX12_ladder_49 rfl rfl (PI_i rfl)
  · have h_9 := b2i_1 h_9
    refine r_iload_n (μ := mX12_ladder) (pc := 12) dX12_ladder_12 rfl rfl ?_
    refine r_i2l (μ := mX12_ladder) (pc := 13) dX12_ladder_13 ?_
    refine r_lconst (μ := mX12_ladder) (pc := 14) (v := 1) dX12_ladder_14 lc_1 ?_
    refine r_ldc2 (μ := mX12_ladder) (pc := 15) dX12_ladder_15 clX12_74 ?_
    refine sP3 (μ := mX12_ladder) (pc := 18) (μ2 := mX12_isIn) dX12_ladder_18 lkX12_65 stX12_isIn mwX12_isIn (Nat.le_of_ble_eq_true rfl) (c_isInK il_1 il_99) ?_
    refine r_if_eq (μ := mX12_ladder) (pc := 21) (tgt := 47) dX12_ladder_21 (by decide) (fun h_21 => ?_) (fun h_21 => ?_)
    · have h_21 := b2i_0 h_21
      refine r_ldc (μ := mX12_ladder) (pc := 47) dX12_ladder_47 ctX12_78 ?_
      exact r_iret (μ := mX12_ladder) (pc := 49) dX12_ladder_49 rfl rfl (PI_i rfl)
    · have h_21 := b2i_1 h_21
      refine r_aload_n (μ := mX12_ladder) (pc := 24) dX12_ladder_24 rfl rfl rfl ?_
      refine r_iload_n (μ := mX12_ladder) (pc := 25) dX12_ladder_25 rfl rfl ?_
      refine vP1 (μ := mX12_ladder) (pc := 26) (c0 := 12) (q0 := (RX12, TX12, 34)) (μ2 := mX12_isLedge) dX12_ladder_26 rfl rfl lkX12_84 imX12_isLedge seX12_X12_isLedge_X12_isLedge mwX12_isLedge (Nat.le_of_ble_eq_true rfl) (c_isLedge hM hn (by omega)) ?_
      refine r_if_eq (μ := mX12_ladder) (pc := 29) (tgt := 47) dX12_ladder_29 (by decide) (fun h_29 => ?_) (fun h_29 => ?_)
      · have h_29 := b2i_0 h_29
        refine r_ldc (μ := mX12_ladder) (pc := 47) dX12_ladder_47 ctX12_78 ?_
        exact r_iret (μ := mX12_ladder) (pc := 49) dX12_ladder_49 rfl rfl (PI_i rfl)
      · have h_29 := b2i_1 h_29
        refine r_aload_n (μ := mX12_ladder) (pc := 32) dX12_ladder_32 rfl rfl rfl ?_
        refine r_iload (μ := mX12_ladder) (pc := 33) dX12_ladder_33 rfl ?_
        refine vP1 (μ := mX12_ladder) (pc := 35) (c0 := 12) (q0 := (RX12, TX12, 34)) (μ2 := mX12_isLedge) dX12_ladder_35 rfl rfl lkX12_84 imX12_isLedge seX12_X12_isLedge_X12_isLedge mwX12_isLedge (Nat.le_of_ble_eq_true rfl) (c_isLedge hM hn (by omega)) ?_
        refine r_if_eq (μ := mX12_ladder) (pc := 38) (tgt := 47) dX12_ladder_38 (by decide) (fun h_38 => ?_) (fun h_38 => ?_)
        · have h_38 := b2i_0 h_38
          refine r_ldc (μ := mX12_ladder) (pc := 47) dX12_ladder_47 ctX12_78 ?_
          exact r_iret (μ := mX12_ladder) (pc := 49) dX12_ladder_49 rfl rfl (PI_i rfl)
        · have h_38 := b2i_1 h_38
          refine r_iload_n (μ := mX12_ladder) (pc := 41) dX12_ladder_41 rfl rfl ?_
          refine r_iload (μ := mX12_ladder) (pc := 42) dX12_ladder_42 rfl ?_
          refine r_icmp_ne (μ := mX12_ladder) (pc := 44) (tgt := 50) dX12_ladder_44 (by decide) (fun h_44 => ?_) (fun h_44 => ?_)
          · exact absurd ⟨h_9, h_21, h_29, h_38, h_44⟩ hb
          · refine r_ldc (μ := mX12_ladder) (pc := 47) dX12_ladder_47 ctX12_78 ?_
            exact r_iret (μ := mX12_ladder) (pc := 49) dX12_ladder_49 rfl rfl (PI_i rfl)

theorem c_ladder_full {d : Nat} {mi : MI} {mr : MR} (hM : MB mr) {n : Nat} (hn : mi 1 0 = nI n) (hn10 : n ≤ 10) {k g f t : Int32} (h1 : inB k 0 5 = true) (h2 : inB g 1 99 = true) (h3 : inR f n = true) (h4 : inR t n = true) (h5 : ¬ f = t) (hm : mi 1 1 = 8) : CP (d + 2) mX12_ladder [.ref 0, .int k, .int g, .int f, .int t] shM mi mr 0 0 (PI (FULLc) shM mi mr) := by
  refine CP.of (L := [_, _, _, _, _, _]) (by decide) rfl rfl (Nat.le_of_ble_eq_true rfl) ?_
  refine r_iload_n (μ := mX12_ladder) (pc := 0) dX12_ladder_0 rfl rfl ?_
  refine r_i2l (μ := mX12_ladder) (pc := 1) dX12_ladder_1 ?_
  refine r_lconst (μ := mX12_ladder) (pc := 2) (v := 0) dX12_ladder_2 lc_0 ?_
  refine r_ldc2 (μ := mX12_ladder) (pc := 3) dX12_ladder_3 clX12_106 ?_
  refine sP3 (μ := mX12_ladder) (pc := 6) (μ2 := mX12_isIn) dX12_ladder_6 lkX12_65 stX12_isIn mwX12_isIn (Nat.le_of_ble_eq_true rfl) (c_isInK il_0 il_5) ?_
  refine r_if_eq (μ := mX12_ladder) (pc := 9) (tgt := 47) dX12_ladder_9 (by decide) (fun h_9 => absurd h_9 (b2i_ne h1)) (fun h_9 => ?_)
  refine r_iload_n (μ := mX12_ladder) (pc := 12) dX12_ladder_12 rfl rfl ?_
  refine r_i2l (μ := mX12_ladder) (pc := 13) dX12_ladder_13 ?_
  refine r_lconst (μ := mX12_ladder) (pc := 14) (v := 1) dX12_ladder_14 lc_1 ?_
  refine r_ldc2 (μ := mX12_ladder) (pc := 15) dX12_ladder_15 clX12_74 ?_
  refine sP3 (μ := mX12_ladder) (pc := 18) (μ2 := mX12_isIn) dX12_ladder_18 lkX12_65 stX12_isIn mwX12_isIn (Nat.le_of_ble_eq_true rfl) (c_isInK il_1 il_99) ?_
  refine r_if_eq (μ := mX12_ladder) (pc := 21) (tgt := 47) dX12_ladder_21 (by decide) (fun h_21 => absurd h_21 (b2i_ne h2)) (fun h_21 => ?_)
  refine r_aload_n (μ := mX12_ladder) (pc := 24) dX12_ladder_24 rfl rfl rfl ?_
  refine r_iload_n (μ := mX12_ladder) (pc := 25) dX12_ladder_25 rfl rfl ?_
  refine vP1 (μ := mX12_ladder) (pc := 26) (c0 := 12) (q0 := (RX12, TX12, 34)) (μ2 := mX12_isLedge) dX12_ladder_26 rfl rfl lkX12_84 imX12_isLedge seX12_X12_isLedge_X12_isLedge mwX12_isLedge (Nat.le_of_ble_eq_true rfl) (c_isLedge hM hn (by omega)) ?_
  refine r_if_eq (μ := mX12_ladder) (pc := 29) (tgt := 47) dX12_ladder_29 (by decide) (fun h_29 => absurd h_29 (b2i_ne h3)) (fun h_29 => ?_)
  refine r_aload_n (μ := mX12_ladder) (pc := 32) dX12_ladder_32 rfl rfl rfl ?_
  refine r_iload (μ := mX12_ladder) (pc := 33) dX12_ladder_33 rfl ?_
  refine vP1 (μ := mX12_ladder) (pc := 35) (c0 := 12) (q0 := (RX12, TX12, 34)) (μ2 := mX12_isLedge) dX12_ladder_35 rfl rfl lkX12_84 imX12_isLedge seX12_X12_isLedge_X12_isLedge mwX12_isLedge (Nat.le_of_ble_eq_true rfl) (c_isLedge hM hn (by omega)) ?_
  refine r_if_eq (μ := mX12_ladder) (pc := 38) (tgt := 47) dX12_ladder_38 (by decide) (fun h_38 => absurd h_38 (b2i_ne h4)) (fun h_38 => ?_)
  refine r_iload_n (μ := mX12_ladder) (pc := 41) dX12_ladder_41 rfl rfl ?_
  refine r_iload (μ := mX12_ladder) (pc := 42) dX12_ladder_42 rfl ?_
  refine r_icmp_ne (μ := mX12_ladder) (pc := 44) (tgt := 50) dX12_ladder_44 (by decide) (fun h_44 => ?_) (fun h_44 => absurd h_44 h5)
  refine r_aload_n (μ := mX12_ladder) (pc := 50) dX12_ladder_50 rfl rfl rfl ?_
  refine r_getR (μ := mX12_ladder) (pc := 51) dX12_ladder_51 fpX12_7 rfl rfl (by decide) (hM _ _ rfl) ?_
  refine r_iconst (μ := mX12_ladder) (pc := 54) (v := 1) dX12_ladder_54 ic_1 ?_
  refine r_iaload (μ := mX12_ladder) (pc := 55) (j := 1) dX12_ladder_55 rfl rfl (by decide) (by decide) ?_
  refine r_bipush (μ := mX12_ladder) (pc := 56) (v := 8) dX12_ladder_56 bp_8 ?_
  refine r_icmp_ne (μ := mX12_ladder) (pc := 58) (tgt := 64) dX12_ladder_58 (by decide) (fun h_58 => absurd hm h_58) (fun h_58 => ?_)
  refine r_ldc (μ := mX12_ladder) (pc := 61) dX12_ladder_61 ctX12_79 ?_
  exact r_iret (μ := mX12_ladder) (pc := 63) dX12_ladder_63 rfl rfl (PI_i rfl)

theorem c_ladder {d : Nat} {mi : MI} {mr : MR} (hM : MB mr) {n : Nat} (hn : mi 1 0 = nI n) (hn10 : n ≤ 10) {k g f t : Int32} (h1 : inB k 0 5 = true) (h2 : inB g 1 99 = true) (h3 : inR f n = true) (h4 : inR t n = true) (h5 : ¬ f = t) {m : Nat} (hm : mi 1 1 = nI m) (hm8 : m < 8) : CP (d + 2) mX12_ladder [.ref 0, .int k, .int g, .int f, .int t] shM mi mr 0 0 (PX shM mr (fun r mi2 => r = nI m ∧ mi2 = addD mi m k g f t)) := by
  refine CP.of (L := [_, _, _, _, _, _]) (by decide) rfl rfl (Nat.le_of_ble_eq_true rfl) ?_
  refine r_iload_n (μ := mX12_ladder) (pc := 0) dX12_ladder_0 rfl rfl ?_
  refine r_i2l (μ := mX12_ladder) (pc := 1) dX12_ladder_1 ?_
  refine r_lconst (μ := mX12_ladder) (pc := 2) (v := 0) dX12_ladder_2 lc_0 ?_
  refine r_ldc2 (μ := mX12_ladder) (pc := 3) dX12_ladder_3 clX12_106 ?_
  refine sP3 (μ := mX12_ladder) (pc := 6) (μ2 := mX12_isIn) dX12_ladder_6 lkX12_65 stX12_isIn mwX12_isIn (Nat.le_of_ble_eq_true rfl) (c_isInK il_0 il_5) ?_
  refine r_if_eq (μ := mX12_ladder) (pc := 9) (tgt := 47) dX12_ladder_9 (by decide) (fun h_9 => absurd h_9 (b2i_ne h1)) (fun h_9 => ?_)
  refine r_iload_n (μ := mX12_ladder) (pc := 12) dX12_ladder_12 rfl rfl ?_
  refine r_i2l (μ := mX12_ladder) (pc := 13) dX12_ladder_13 ?_
  refine r_lconst (μ := mX12_ladder) (pc := 14) (v := 1) dX12_ladder_14 lc_1 ?_
  refine r_ldc2 (μ := mX12_ladder) (pc := 15) dX12_ladder_15 clX12_74 ?_
  refine sP3 (μ := mX12_ladder) (pc := 18) (μ2 := mX12_isIn) dX12_ladder_18 lkX12_65 stX12_isIn mwX12_isIn (Nat.le_of_ble_eq_true rfl) (c_isInK il_1 il_99) ?_
  refine r_if_eq (μ := mX12_ladder) (pc := 21) (tgt := 47) dX12_ladder_21 (by decide) (fun h_21 => absurd h_21 (b2i_ne h2)) (fun h_21 => ?_)
  refine r_aload_n (μ := mX12_ladder) (pc := 24) dX12_ladder_24 rfl rfl rfl ?_
  refine r_iload_n (μ := mX12_ladder) (pc := 25) dX12_ladder_25 rfl rfl ?_
  refine vP1 (μ := mX12_ladder) (pc := 26) (c0 := 12) (q0 := (RX12, TX12, 34)) (μ2 := mX12_isLedge) dX12_ladder_26 rfl rfl lkX12_84 imX12_isLedge seX12_X12_isLedge_X12_isLedge mwX12_isLedge (Nat.le_of_ble_eq_true rfl) (c_isLedge hM hn (by omega)) ?_
  refine r_if_eq (μ := mX12_ladder) (pc := 29) (tgt := 47) dX12_ladder_29 (by decide) (fun h_29 => absurd h_29 (b2i_ne h3)) (fun h_29 => ?_)
  refine r_aload_n (μ := mX12_ladder) (pc := 32) dX12_ladder_32 rfl rfl rfl ?_
  refine r_iload (μ := mX12_ladder) (pc := 33) dX12_ladder_33 rfl ?_
  refine vP1 (μ := mX12_ladder) (pc := 35) (c0 := 12) (q0 := (RX12, TX12, 34)) (μ2 := mX12_isLedge) dX12_ladder_35 rfl rfl lkX12_84 imX12_isLedge seX12_X12_isLedge_X12_isLedge mwX12_isLedge (Nat.le_of_ble_eq_true rfl) (c_isLedge hM hn (by omega)) ?_
  refine r_if_eq (μ := mX12_ladder) (pc := 38) (tgt := 47) dX12_ladder_38 (by decide) (fun h_38 => absurd h_38 (b2i_ne h4)) (fun h_38 => ?_)
  refine r_iload_n (μ := mX12_ladder) (pc := 41) dX12_ladder_41 rfl rfl ?_
  refine r_iload (μ := mX12_ladder) (pc := 42) dX12_ladder_42 rfl ?_
  refine r_icmp_ne (μ := mX12_ladder) (pc := 44) (tgt := 50) dX12_ladder_44 (by decide) (fun h_44 => ?_) (fun h_44 => absurd h_44 h5)
  refine r_aload_n (μ := mX12_ladder) (pc := 50) dX12_ladder_50 rfl rfl rfl ?_
  refine r_getR (μ := mX12_ladder) (pc := 51) dX12_ladder_51 fpX12_7 rfl rfl (by decide) (hM _ _ rfl) ?_
  refine r_iconst (μ := mX12_ladder) (pc := 54) (v := 1) dX12_ladder_54 ic_1 ?_
  refine r_iaload (μ := mX12_ladder) (pc := 55) (j := 1) dX12_ladder_55 rfl rfl (by decide) (by decide) ?_
  refine r_bipush (μ := mX12_ladder) (pc := 56) (v := 8) dX12_ladder_56 bp_8 ?_
  refine r_icmp_ne (μ := mX12_ladder) (pc := 58) (tgt := 64) dX12_ladder_58 (by decide) (fun h_58 => ?_) (fun h_58 => absurd h_58 (by rw [hm]; exact nI_neC (b := 8) rfl (by omega) (by omega) (by decide)))
  refine r_aload_n (μ := mX12_ladder) (pc := 64) dX12_ladder_64 rfl rfl rfl ?_
  refine r_getR (μ := mX12_ladder) (pc := 65) dX12_ladder_65 fpX12_7 rfl rfl (by decide) (hM _ _ rfl) ?_
  refine r_iconst (μ := mX12_ladder) (pc := 68) (v := 1) dX12_ladder_68 ic_1 ?_
  refine r_iaload (μ := mX12_ladder) (pc := 69) (j := 1) dX12_ladder_69 rfl rfl (by decide) (by decide) ?_
  rw [hm]
  refine s_istore (μ := mX12_ladder) (pc := 70) (L2 := [_, _, _, _, _, _]) dX12_ladder_70 (Nat.le_of_ble_eq_true rfl) (Nat.le_of_ble_eq_true rfl) rfl rfl ?_
  refine r_aload_n (μ := mX12_ladder) (pc := 72) dX12_ladder_72 rfl rfl rfl ?_
  refine r_getR (μ := mX12_ladder) (pc := 73) dX12_ladder_73 fpX12_7 rfl rfl (by decide) (hM _ _ rfl) ?_
  refine r_iconst (μ := mX12_ladder) (pc := 76) (v := 1) dX12_ladder_76 ic_1 ?_
  refine r_dup2 (μ := mX12_ladder) (pc := 77) dX12_ladder_77 rfl rfl ?_
  refine r_iaload (μ := mX12_ladder) (pc := 78) (j := 1) dX12_ladder_78 rfl rfl (by decide) (by decide) ?_
  rw [hm]
  refine r_iconst (μ := mX12_ladder) (pc := 79) (v := 1) dX12_ladder_79 ic_1 ?_
  refine r_iadd (μ := mX12_ladder) (pc := 80) dX12_ladder_80 ?_
  refine r_iastore (μ := mX12_ladder) (pc := 81) (j := 1) dX12_ladder_81 rfl rfl (by decide) (by decide) ?_
  refine r_aload_n (μ := mX12_ladder) (pc := 82) dX12_ladder_82 rfl rfl rfl ?_
  refine r_iload (μ := mX12_ladder) (pc := 83) dX12_ladder_83 rfl ?_
  refine r_iconst (μ := mX12_ladder) (pc := 85) (v := 0) dX12_ladder_85 ic_0 ?_
  refine r_iload_n (μ := mX12_ladder) (pc := 86) dX12_ladder_86 rfl rfl ?_
  refine vV3 (μ := mX12_ladder) (pc := 87) (c0 := 12) (q0 := (RX12, TX12, 34)) (μ2 := mX12_sets) dX12_ladder_87 rfl rfl lkX12_108 imX12_sets seX12_X12_sets_X12_sets mwX12_sets (Nat.le_of_ble_eq_true rfl) (c_sets hM (by omega) (by decide)) (fun mi_87 h_87 => ?_)
  subst h_87
  refine r_aload_n (μ := mX12_ladder) (pc := 90) dX12_ladder_90 rfl rfl rfl ?_
  refine r_iload (μ := mX12_ladder) (pc := 91) dX12_ladder_91 rfl ?_
  refine r_iconst (μ := mX12_ladder) (pc := 93) (v := 1) dX12_ladder_93 ic_1 ?_
  refine r_iload_n (μ := mX12_ladder) (pc := 94) dX12_ladder_94 rfl rfl ?_
  refine vV3 (μ := mX12_ladder) (pc := 95) (c0 := 12) (q0 := (RX12, TX12, 34)) (μ2 := mX12_sets) dX12_ladder_95 rfl rfl lkX12_108 imX12_sets seX12_X12_sets_X12_sets mwX12_sets (Nat.le_of_ble_eq_true rfl) (c_sets hM (by omega) (by decide)) (fun mi_95 h_95 => ?_)
  subst h_95
  refine r_aload_n (μ := mX12_ladder) (pc := 98) dX12_ladder_98 rfl rfl rfl ?_
  refine r_iload (μ := mX12_ladder) (pc := 99) dX12_ladder_99 rfl ?_
  refine r_iconst (μ := mX12_ladder) (pc := 101) (v := 2) dX12_ladder_101 ic_2 ?_
  refine r_iload_n (μ := mX12_ladder) (pc := 102) dX12_ladder_102 rfl rfl ?_
  refine vV3 (μ := mX12_ladder) (pc := 103) (c0 := 12) (q0 := (RX12, TX12, 34)) (μ2 := mX12_sets) dX12_ladder_103 rfl rfl lkX12_108 imX12_sets seX12_X12_sets_X12_sets mwX12_sets (Nat.le_of_ble_eq_true rfl) (c_sets hM (by omega) (by decide)) (fun mi_103 h_103 => ?_)
  subst h_103
  refine r_aload_n (μ := mX12_ladder) (pc := 106) dX12_ladder_106 rfl rfl rfl ?_
  refine r_iload (μ := mX12_ladder) (pc := 107) dX12_ladder_107 rfl ?_
  refine r_iconst (μ := mX12_ladder) (pc := 109) (v := 3) dX12_ladder_109 ic_3 ?_
  refine r_iload (μ := mX12_ladder) (pc := 110) dX12_ladder_110 rfl ?_
  refine vV3 (μ := mX12_ladder) (pc := 112) (c0 := 12) (q0 := (RX12, TX12, 34)) (μ2 := mX12_sets) dX12_ladder_112 rfl rfl lkX12_108 imX12_sets seX12_X12_sets_X12_sets mwX12_sets (Nat.le_of_ble_eq_true rfl) (c_sets hM (by omega) (by decide)) (fun mi_112 h_112 => ?_)
  subst h_112
  refine r_aload_n (μ := mX12_ladder) (pc := 115) dX12_ladder_115 rfl rfl rfl ?_
  refine r_iload (μ := mX12_ladder) (pc := 116) dX12_ladder_116 rfl ?_
  refine r_iconst (μ := mX12_ladder) (pc := 118) (v := 4) dX12_ladder_118 ic_4 ?_
  refine r_iconst (μ := mX12_ladder) (pc := 119) (v := 0) dX12_ladder_119 ic_0 ?_
  refine vV3 (μ := mX12_ladder) (pc := 120) (c0 := 12) (q0 := (RX12, TX12, 34)) (μ2 := mX12_sets) dX12_ladder_120 rfl rfl lkX12_108 imX12_sets seX12_X12_sets_X12_sets mwX12_sets (Nat.le_of_ble_eq_true rfl) (c_sets hM (by omega) (by decide)) (fun mi_120 h_120 => ?_)
  subst h_120
  refine r_iload (μ := mX12_ladder) (pc := 123) dX12_ladder_123 rfl ?_
  exact r_iret (μ := mX12_ladder) (pc := 125) dX12_ladder_125 rfl rfl (PX_i ⟨rfl, by unfold addD; rw [nI_succ]⟩)

theorem c_apart {d : Nat} {sh : List Sh} {mi : MI} {mr : MR} {a b : Int32} : CP d mX12_apart [.int a, .int b] sh mi mr 0 0 (PI (apartS a b) sh mi mr) := by
  refine CP.of (L := [_, _]) (by decide) rfl rfl (Nat.le_of_ble_eq_true rfl) ?_
  refine r_iload_n (μ := mX12_apart) (pc := 0) dX12_apart_0 rfl rfl ?_
  refine r_iload_n (μ := mX12_apart) (pc := 1) dX12_apart_1 rfl rfl ?_
  refine r_icmp_ge (μ := mX12_apart) (pc := 2) (tgt := 11) dX12_apart_2 (by decide) (fun h_2 => ?_) (fun h_2 => ?_)
  · refine r_iload_n (μ := mX12_apart) (pc := 11) dX12_apart_11 rfl rfl ?_
    refine r_iload_n (μ := mX12_apart) (pc := 12) dX12_apart_12 rfl rfl ?_
    refine r_isub (μ := mX12_apart) (pc := 13) dX12_apart_13 ?_
    exact r_iret (μ := mX12_apart) (pc := 14) dX12_apart_14 rfl rfl (PI_i (by simp [apartS, *]))
  · refine r_iload_n (μ := mX12_apart) (pc := 5) dX12_apart_5 rfl rfl ?_
    refine r_iload_n (μ := mX12_apart) (pc := 6) dX12_apart_6 rfl rfl ?_
    refine r_isub (μ := mX12_apart) (pc := 7) dX12_apart_7 ?_
    refine r_goto (μ := mX12_apart) (pc := 8) (tgt := 14) dX12_apart_8 (by decide) ?_
    exact r_iret (μ := mX12_apart) (pc := 14) dX12_apart_14 rfl rfl (PI_i (by simp [apartS, *]))

theorem c_reach {d : Nat} {mi : MI} {mr : MR} (hM : MB mr) {l k : Nat} (hl : l < 8) (hk : mi 1 (28 + 5 * l + 0) = nI k) (hk6 : k < 6) : CP (d + 1) mX12_reach [.ref 0, .int (nI l)] shM mi mr 0 0 (PI (rchK (knd (mi 1) l) (lng (mi 1) l)) shM mi mr) := by
  refine CP.of (L := [_, _, _]) (by decide) rfl rfl (Nat.le_of_ble_eq_true rfl) ?_
  refine r_aload_n (μ := mX12_reach) (pc := 0) dX12_reach_0 rfl rfl rfl ?_
  refine r_iload_n (μ := mX12_reach) (pc := 1) dX12_reach_1 rfl rfl ?_
  refine r_iconst (μ := mX12_reach) (pc := 2) (v := 1) dX12_reach_2 ic_1 ?_
  refine vP2 (μ := mX12_reach) (pc := 3) (c0 := 12) (q0 := (RX12, TX12, 34)) (μ2 := mX12_of) dX12_reach_3 rfl rfl lkX12_90 imX12_of seX12_X12_of_X12_of mwX12_of (Nat.le_of_ble_eq_true rfl) (c_of hM hl (by decide)) ?_
  refine s_istore_n (μ := mX12_reach) (pc := 6) (L2 := [_, _, _]) dX12_reach_6 rfl (Nat.le_of_ble_eq_true rfl) (Nat.le_of_ble_eq_true rfl) rfl rfl ?_
  refine r_aload_n (μ := mX12_reach) (pc := 7) dX12_reach_7 rfl rfl rfl ?_
  refine r_iload_n (μ := mX12_reach) (pc := 8) dX12_reach_8 rfl rfl ?_
  refine r_iconst (μ := mX12_reach) (pc := 9) (v := 0) dX12_reach_9 ic_0 ?_
  refine vP2 (μ := mX12_reach) (pc := 10) (c0 := 12) (q0 := (RX12, TX12, 34)) (μ2 := mX12_of) dX12_reach_10 rfl rfl lkX12_90 imX12_of seX12_X12_of_X12_of mwX12_of (Nat.le_of_ble_eq_true rfl) (c_of hM hl (by decide)) ?_
  rcases (k6 hk hk6) with hx | hx | hx | hx | hx | hx
  · have hy : knd (mi 1) l = 0 := hx
    rw [hx]
    refine r_tabOut (μ := mX12_reach) (pc := 13) (tgt := 77) dX12_reach_13 (by decide) (by decide) ?_
    refine r_iload_n (μ := mX12_reach) (pc := 77) dX12_reach_77 rfl rfl ?_
    exact r_iret (μ := mX12_reach) (pc := 78) dX12_reach_78 rfl rfl (PI_i (by simp [rchK, hy, lng, *]))
  · have hy : knd (mi 1) l = 1 := hx
    rw [hx]
    refine r_tabIn (μ := mX12_reach) (pc := 13) (tgt := 48) dX12_reach_13 (by decide) (by decide) rfl (by decide) ?_
    refine r_iload_n (μ := mX12_reach) (pc := 48) dX12_reach_48 rfl rfl ?_
    refine r_iconst (μ := mX12_reach) (pc := 49) (v := 3) dX12_reach_49 ic_3 ?_
    refine r_iadd (μ := mX12_reach) (pc := 50) dX12_reach_50 ?_
    exact r_iret (μ := mX12_reach) (pc := 51) dX12_reach_51 rfl rfl (PI_i (by simp [rchK, hy, lng, *]))
  · have hy : knd (mi 1) l = 2 := hx
    rw [hx]
    refine r_tabIn (μ := mX12_reach) (pc := 13) (tgt := 77) dX12_reach_13 (by decide) (by decide) rfl (by decide) ?_
    refine r_iload_n (μ := mX12_reach) (pc := 77) dX12_reach_77 rfl rfl ?_
    exact r_iret (μ := mX12_reach) (pc := 78) dX12_reach_78 rfl rfl (PI_i (by simp [rchK, hy, lng, *]))
  · have hy : knd (mi 1) l = 3 := hx
    rw [hx]
    refine r_tabIn (μ := mX12_reach) (pc := 13) (tgt := 52) dX12_reach_13 (by decide) (by decide) rfl (by decide) ?_
    refine r_iload_n (μ := mX12_reach) (pc := 52) dX12_reach_52 rfl rfl ?_
    refine r_iconst (μ := mX12_reach) (pc := 53) (v := 3) dX12_reach_53 ic_3 ?_
    refine r_iadd (μ := mX12_reach) (pc := 54) dX12_reach_54 ?_
    refine r_iload_n (μ := mX12_reach) (pc := 55) dX12_reach_55 rfl rfl ?_
    refine r_iconst (μ := mX12_reach) (pc := 56) (v := 4) dX12_reach_56 ic_4 ?_
    refine r_idiv (μ := mX12_reach) (pc := 57) dX12_reach_57 (by decide) ?_
    refine r_iadd (μ := mX12_reach) (pc := 58) dX12_reach_58 ?_
    exact r_iret (μ := mX12_reach) (pc := 59) dX12_reach_59 rfl rfl (PI_i (by simp [rchK, hy, lng, *]))
  · have hy : knd (mi 1) l = 4 := hx
    rw [hx]
    refine r_tabIn (μ := mX12_reach) (pc := 13) (tgt := 60) dX12_reach_13 (by decide) (by decide) rfl (by decide) ?_
    refine r_iload_n (μ := mX12_reach) (pc := 60) dX12_reach_60 rfl rfl ?_
    refine r_iconst (μ := mX12_reach) (pc := 61) (v := 2) dX12_reach_61 ic_2 ?_
    refine r_icmp_le (μ := mX12_reach) (pc := 62) (tgt := 71) dX12_reach_62 (by decide) (fun h_62 => ?_) (fun h_62 => ?_)
    · refine r_iconst (μ := mX12_reach) (pc := 71) (v := 0) dX12_reach_71 ic_0 ?_
      exact r_iret (μ := mX12_reach) (pc := 72) dX12_reach_72 rfl rfl (PI_i (by simp [rchK, hy, lng, *]))
    · refine r_iload_n (μ := mX12_reach) (pc := 65) dX12_reach_65 rfl rfl ?_
      refine r_iconst (μ := mX12_reach) (pc := 66) (v := 2) dX12_reach_66 ic_2 ?_
      refine r_isub (μ := mX12_reach) (pc := 67) dX12_reach_67 ?_
      refine r_goto (μ := mX12_reach) (pc := 68) (tgt := 72) dX12_reach_68 (by decide) ?_
      exact r_iret (μ := mX12_reach) (pc := 72) dX12_reach_72 rfl rfl (PI_i (by simp [rchK, hy, lng, *]))
  · have hy : knd (mi 1) l = 5 := hx
    rw [hx]
    refine r_tabIn (μ := mX12_reach) (pc := 13) (tgt := 73) dX12_reach_13 (by decide) (by decide) rfl (by decide) ?_
    refine r_iload_n (μ := mX12_reach) (pc := 73) dX12_reach_73 rfl rfl ?_
    refine r_iconst (μ := mX12_reach) (pc := 74) (v := 2) dX12_reach_74 ic_2 ?_
    refine r_idiv (μ := mX12_reach) (pc := 75) dX12_reach_75 (by decide) ?_
    exact r_iret (μ := mX12_reach) (pc := 76) dX12_reach_76 rfl rfl (PI_i (by simp [rchK, hy, lng, *]))

theorem c_worth {d : Nat} {mi : MI} {mr : MR} (hM : MB mr) {l k : Nat} (hl : l < 8) (hk : mi 1 (28 + 5 * l + 0) = nI k) (hk6 : k < 6) : CP (d + 1) mX12_worth [.ref 0, .int (nI l)] shM mi mr 0 0 (PI (wthK (knd (mi 1) l) (lng (mi 1) l)) shM mi mr) := by
  refine CP.of (L := [_, _, _]) (by decide) rfl rfl (Nat.le_of_ble_eq_true rfl) ?_
  refine r_aload_n (μ := mX12_worth) (pc := 0) dX12_worth_0 rfl rfl rfl ?_
  refine r_iload_n (μ := mX12_worth) (pc := 1) dX12_worth_1 rfl rfl ?_
  refine r_iconst (μ := mX12_worth) (pc := 2) (v := 1) dX12_worth_2 ic_1 ?_
  refine vP2 (μ := mX12_worth) (pc := 3) (c0 := 12) (q0 := (RX12, TX12, 34)) (μ2 := mX12_of) dX12_worth_3 rfl rfl lkX12_90 imX12_of seX12_X12_of_X12_of mwX12_of (Nat.le_of_ble_eq_true rfl) (c_of hM hl (by decide)) ?_
  refine s_istore_n (μ := mX12_worth) (pc := 6) (L2 := [_, _, _]) dX12_worth_6 rfl (Nat.le_of_ble_eq_true rfl) (Nat.le_of_ble_eq_true rfl) rfl rfl ?_
  refine r_aload_n (μ := mX12_worth) (pc := 7) dX12_worth_7 rfl rfl rfl ?_
  refine r_iload_n (μ := mX12_worth) (pc := 8) dX12_worth_8 rfl rfl ?_
  refine r_iconst (μ := mX12_worth) (pc := 9) (v := 0) dX12_worth_9 ic_0 ?_
  refine vP2 (μ := mX12_worth) (pc := 10) (c0 := 12) (q0 := (RX12, TX12, 34)) (μ2 := mX12_of) dX12_worth_10 rfl rfl lkX12_90 imX12_of seX12_X12_of_X12_of mwX12_of (Nat.le_of_ble_eq_true rfl) (c_of hM hl (by decide)) ?_
  rcases (k6 hk hk6) with hx | hx | hx | hx | hx | hx
  · have hy : knd (mi 1) l = 0 := hx
    rw [hx]
    refine r_tabOut (μ := mX12_worth) (pc := 13) (tgt := 73) dX12_worth_13 (by decide) (by decide) ?_
    refine r_iload_n (μ := mX12_worth) (pc := 73) dX12_worth_73 rfl rfl ?_
    exact r_iret (μ := mX12_worth) (pc := 74) dX12_worth_74 rfl rfl (PI_i (by simp [wthK, hy, lng]))
  · have hy : knd (mi 1) l = 1 := hx
    rw [hx]
    refine r_tabIn (μ := mX12_worth) (pc := 13) (tgt := 48) dX12_worth_13 (by decide) (by decide) rfl (by decide) ?_
    refine r_iload_n (μ := mX12_worth) (pc := 48) dX12_worth_48 rfl rfl ?_
    refine r_iconst (μ := mX12_worth) (pc := 49) (v := 4) dX12_worth_49 ic_4 ?_
    refine r_isub (μ := mX12_worth) (pc := 50) dX12_worth_50 ?_
    exact r_iret (μ := mX12_worth) (pc := 51) dX12_worth_51 rfl rfl (PI_i (by simp [wthK, hy, lng]))
  · have hy : knd (mi 1) l = 2 := hx
    rw [hx]
    refine r_tabIn (μ := mX12_worth) (pc := 13) (tgt := 52) dX12_worth_13 (by decide) (by decide) rfl (by decide) ?_
    refine r_iload_n (μ := mX12_worth) (pc := 52) dX12_worth_52 rfl rfl ?_
    refine r_bipush (μ := mX12_worth) (pc := 53) (v := 9) dX12_worth_53 bp_9 ?_
    refine r_iadd (μ := mX12_worth) (pc := 55) dX12_worth_55 ?_
    exact r_iret (μ := mX12_worth) (pc := 56) dX12_worth_56 rfl rfl (PI_i (by simp [wthK, hy, lng]))
  · have hy : knd (mi 1) l = 3 := hx
    rw [hx]
    refine r_tabIn (μ := mX12_worth) (pc := 13) (tgt := 57) dX12_worth_13 (by decide) (by decide) rfl (by decide) ?_
    refine r_iconst (μ := mX12_worth) (pc := 57) (v := 2) dX12_worth_57 ic_2 ?_
    refine r_iload_n (μ := mX12_worth) (pc := 58) dX12_worth_58 rfl rfl ?_
    refine r_iconst (μ := mX12_worth) (pc := 59) (v := 4) dX12_worth_59 ic_4 ?_
    refine r_isub (μ := mX12_worth) (pc := 60) dX12_worth_60 ?_
    refine r_imul (μ := mX12_worth) (pc := 61) dX12_worth_61 ?_
    exact r_iret (μ := mX12_worth) (pc := 62) dX12_worth_62 rfl rfl (PI_i (by simp [wthK, hy, lng]))
  · have hy : knd (mi 1) l = 4 := hx
    rw [hx]
    refine r_tabIn (μ := mX12_worth) (pc := 13) (tgt := 63) dX12_worth_13 (by decide) (by decide) rfl (by decide) ?_
    refine r_iload_n (μ := mX12_worth) (pc := 63) dX12_worth_63 rfl rfl ?_
    refine r_bipush (μ := mX12_worth) (pc := 64) (v := 29) dX12_worth_64 bp_29 ?_
    refine r_iadd (μ := mX12_worth) (pc := 66) dX12_worth_66 ?_
    exact r_iret (μ := mX12_worth) (pc := 67) dX12_worth_67 rfl rfl (PI_i (by simp [wthK, hy, lng]))
  · have hy : knd (mi 1) l = 5 := hx
    rw [hx]
    refine r_tabIn (μ := mX12_worth) (pc := 13) (tgt := 68) dX12_worth_13 (by decide) (by decide) rfl (by decide) ?_
    refine r_bipush (μ := mX12_worth) (pc := 68) (v := 40) dX12_worth_68 bp_40 ?_
    refine r_iload_n (μ := mX12_worth) (pc := 70) dX12_worth_70 rfl rfl ?_
    refine r_isub (μ := mX12_worth) (pc := 71) dX12_worth_71 ?_
    exact r_iret (μ := mX12_worth) (pc := 72) dX12_worth_72 rfl rfl (PI_i (by simp [wthK, hy, lng]))

theorem c_minutes {d : Nat} {mi : MI} {mr : MR} (hM : MB mr) {l k : Nat} (hl : l < 8) (hk : mi 1 (28 + 5 * l + 0) = nI k) (hk6 : k < 6) {t f : Nat} (ht : mi 1 (28 + 5 * l + 3) = nI t) (ht10 : t < 10) (hf : mi 1 (28 + 5 * l + 2) = nI f) (hf10 : f < 10) : CP (d + 1) mX12_minutes [.ref 0, .int (nI l)] shM mi mr 0 0 (PI (mntN (mi 1) l t f) shM mi mr) := by
  refine CP.of (L := [_, _, _, _]) (by decide) rfl rfl (Nat.le_of_ble_eq_true rfl) ?_
  refine r_aload_n (μ := mX12_minutes) (pc := 0) dX12_minutes_0 rfl rfl rfl ?_
  refine r_aload_n (μ := mX12_minutes) (pc := 1) dX12_minutes_1 rfl rfl rfl ?_
  refine r_iload_n (μ := mX12_minutes) (pc := 2) dX12_minutes_2 rfl rfl ?_
  refine r_iconst (μ := mX12_minutes) (pc := 3) (v := 3) dX12_minutes_3 ic_3 ?_
  refine vP2 (μ := mX12_minutes) (pc := 4) (c0 := 12) (q0 := (RX12, TX12, 34)) (μ2 := mX12_of) dX12_minutes_4 rfl rfl lkX12_90 imX12_of seX12_X12_of_X12_of mwX12_of (Nat.le_of_ble_eq_true rfl) (c_of hM hl (by decide)) ?_
  rw [ht]
  refine vP1 (μ := mX12_minutes) (pc := 7) (c0 := 12) (q0 := (RX12, TX12, 34)) (μ2 := mX12_height) dX12_minutes_7 rfl rfl lkX12_112 imX12_height seX12_X12_height_X12_height mwX12_height (Nat.le_of_ble_eq_true rfl) (c_height hM (by omega)) ?_
  refine r_aload_n (μ := mX12_minutes) (pc := 10) dX12_minutes_10 rfl rfl rfl ?_
  refine r_aload_n (μ := mX12_minutes) (pc := 11) dX12_minutes_11 rfl rfl rfl ?_
  refine r_iload_n (μ := mX12_minutes) (pc := 12) dX12_minutes_12 rfl rfl ?_
  refine r_iconst (μ := mX12_minutes) (pc := 13) (v := 2) dX12_minutes_13 ic_2 ?_
  refine vP2 (μ := mX12_minutes) (pc := 14) (c0 := 12) (q0 := (RX12, TX12, 34)) (μ2 := mX12_of) dX12_minutes_14 rfl rfl lkX12_90 imX12_of seX12_X12_of_X12_of mwX12_of (Nat.le_of_ble_eq_true rfl) (c_of hM hl (by decide)) ?_
  rw [hf]
  refine vP1 (μ := mX12_minutes) (pc := 17) (c0 := 12) (q0 := (RX12, TX12, 34)) (μ2 := mX12_height) dX12_minutes_17 rfl rfl lkX12_112 imX12_height seX12_X12_height_X12_height mwX12_height (Nat.le_of_ble_eq_true rfl) (c_height hM (by omega)) ?_
  refine r_isub (μ := mX12_minutes) (pc := 20) dX12_minutes_20 ?_
  refine s_istore_n (μ := mX12_minutes) (pc := 21) (L2 := [_, _, _, _]) dX12_minutes_21 rfl (Nat.le_of_ble_eq_true rfl) (Nat.le_of_ble_eq_true rfl) rfl rfl ?_
  refine r_iload_n (μ := mX12_minutes) (pc := 22) dX12_minutes_22 rfl rfl ?_
  refine r_if_ge (μ := mX12_minutes) (pc := 23) (tgt := 30) dX12_minutes_23 (by decide) (fun h_23 => ?_) (fun h_23 => ?_)
  · refine r_iload_n (μ := mX12_minutes) (pc := 30) dX12_minutes_30 rfl rfl ?_
    refine r_iconst (μ := mX12_minutes) (pc := 31) (v := 5) dX12_minutes_31 ic_5 ?_
    refine r_idiv (μ := mX12_minutes) (pc := 32) dX12_minutes_32 (by decide) ?_
    refine r_iconst (μ := mX12_minutes) (pc := 33) (v := 1) dX12_minutes_33 ic_1 ?_
    refine r_iadd (μ := mX12_minutes) (pc := 34) dX12_minutes_34 ?_
    refine s_istore_n (μ := mX12_minutes) (pc := 35) (L2 := [_, _, _, _]) dX12_minutes_35 rfl (Nat.le_of_ble_eq_true rfl) (Nat.le_of_ble_eq_true rfl) rfl rfl ?_
    refine r_aload_n (μ := mX12_minutes) (pc := 36) dX12_minutes_36 rfl rfl rfl ?_
    refine r_iload_n (μ := mX12_minutes) (pc := 37) dX12_minutes_37 rfl rfl ?_
    refine r_iconst (μ := mX12_minutes) (pc := 38) (v := 0) dX12_minutes_38 ic_0 ?_
    refine vP2 (μ := mX12_minutes) (pc := 39) (c0 := 12) (q0 := (RX12, TX12, 34)) (μ2 := mX12_of) dX12_minutes_39 rfl rfl lkX12_90 imX12_of seX12_X12_of_X12_of mwX12_of (Nat.le_of_ble_eq_true rfl) (c_of hM hl (by decide)) ?_
    rcases (k6 hk hk6) with hx | hx | hx | hx | hx | hx
    · have hy : knd (mi 1) l = 0 := hx
      rw [hx]
      refine r_tabOut (μ := mX12_minutes) (pc := 42) (tgt := 86) dX12_minutes_42 (by decide) (by decide) ?_
      refine r_iload_n (μ := mX12_minutes) (pc := 86) dX12_minutes_86 rfl rfl ?_
      exact r_iret (μ := mX12_minutes) (pc := 87) dX12_minutes_87 rfl rfl (PI_i (by simp [mntN, minK, riseN, hgt, hy, *]))
    · have hy : knd (mi 1) l = 1 := hx
      rw [hx]
      refine r_tabIn (μ := mX12_minutes) (pc := 42) (tgt := 72) dX12_minutes_42 (by decide) (by decide) rfl (by decide) ?_
      refine r_iconst (μ := mX12_minutes) (pc := 72) (v := 2) dX12_minutes_72 ic_2 ?_
      refine r_iload_n (μ := mX12_minutes) (pc := 73) dX12_minutes_73 rfl rfl ?_
      refine r_imul (μ := mX12_minutes) (pc := 74) dX12_minutes_74 ?_
      exact r_iret (μ := mX12_minutes) (pc := 75) dX12_minutes_75 rfl rfl (PI_i (by simp [mntN, minK, riseN, hgt, hy, *]))
    · have hy : knd (mi 1) l = 2 := hx
      rw [hx]
      refine r_tabIn (μ := mX12_minutes) (pc := 42) (tgt := 82) dX12_minutes_42 (by decide) (by decide) rfl (by decide) ?_
      refine r_iload_n (μ := mX12_minutes) (pc := 82) dX12_minutes_82 rfl rfl ?_
      refine r_iconst (μ := mX12_minutes) (pc := 83) (v := 1) dX12_minutes_83 ic_1 ?_
      refine r_iadd (μ := mX12_minutes) (pc := 84) dX12_minutes_84 ?_
      exact r_iret (μ := mX12_minutes) (pc := 85) dX12_minutes_85 rfl rfl (PI_i (by simp [mntN, minK, riseN, hgt, hy, *]))
    · have hy : knd (mi 1) l = 3 := hx
      rw [hx]
      refine r_tabIn (μ := mX12_minutes) (pc := 42) (tgt := 76) dX12_minutes_42 (by decide) (by decide) rfl (by decide) ?_
      refine r_iconst (μ := mX12_minutes) (pc := 76) (v := 2) dX12_minutes_76 ic_2 ?_
      refine r_iload_n (μ := mX12_minutes) (pc := 77) dX12_minutes_77 rfl rfl ?_
      refine r_imul (μ := mX12_minutes) (pc := 78) dX12_minutes_78 ?_
      refine r_iconst (μ := mX12_minutes) (pc := 79) (v := 1) dX12_minutes_79 ic_1 ?_
      refine r_isub (μ := mX12_minutes) (pc := 80) dX12_minutes_80 ?_
      exact r_iret (μ := mX12_minutes) (pc := 81) dX12_minutes_81 rfl rfl (PI_i (by simp [mntN, minK, riseN, hgt, hy, *]))
    · have hy : knd (mi 1) l = 4 := hx
      rw [hx]
      refine r_tabIn (μ := mX12_minutes) (pc := 42) (tgt := 82) dX12_minutes_42 (by decide) (by decide) rfl (by decide) ?_
      refine r_iload_n (μ := mX12_minutes) (pc := 82) dX12_minutes_82 rfl rfl ?_
      refine r_iconst (μ := mX12_minutes) (pc := 83) (v := 1) dX12_minutes_83 ic_1 ?_
      refine r_iadd (μ := mX12_minutes) (pc := 84) dX12_minutes_84 ?_
      exact r_iret (μ := mX12_minutes) (pc := 85) dX12_minutes_85 rfl rfl (PI_i (by simp [mntN, minK, riseN, hgt, hy, *]))
    · have hy : knd (mi 1) l = 5 := hx
      rw [hx]
      refine r_tabOut (μ := mX12_minutes) (pc := 42) (tgt := 86) dX12_minutes_42 (by decide) (by decide) ?_
      refine r_iload_n (μ := mX12_minutes) (pc := 86) dX12_minutes_86 rfl rfl ?_
      exact r_iret (μ := mX12_minutes) (pc := 87) dX12_minutes_87 rfl rfl (PI_i (by simp [mntN, minK, riseN, hgt, hy, *]))
  · refine r_iconst (μ := mX12_minutes) (pc := 26) (v := 0) dX12_minutes_26 ic_0 ?_
    refine r_goto (μ := mX12_minutes) (pc := 27) (tgt := 31) dX12_minutes_27 (by decide) ?_
    refine r_iconst (μ := mX12_minutes) (pc := 31) (v := 5) dX12_minutes_31 ic_5 ?_
    refine r_idiv (μ := mX12_minutes) (pc := 32) dX12_minutes_32 (by decide) ?_
    refine r_iconst (μ := mX12_minutes) (pc := 33) (v := 1) dX12_minutes_33 ic_1 ?_
    refine r_iadd (μ := mX12_minutes) (pc := 34) dX12_minutes_34 ?_
    refine s_istore_n (μ := mX12_minutes) (pc := 35) (L2 := [_, _, _, _]) dX12_minutes_35 rfl (Nat.le_of_ble_eq_true rfl) (Nat.le_of_ble_eq_true rfl) rfl rfl ?_
    refine r_aload_n (μ := mX12_minutes) (pc := 36) dX12_minutes_36 rfl rfl rfl ?_
    refine r_iload_n (μ := mX12_minutes) (pc := 37) dX12_minutes_37 rfl rfl ?_
    refine r_iconst (μ := mX12_minutes) (pc := 38) (v := 0) dX12_minutes_38 ic_0 ?_
    refine vP2 (μ := mX12_minutes) (pc := 39) (c0 := 12) (q0 := (RX12, TX12, 34)) (μ2 := mX12_of) dX12_minutes_39 rfl rfl lkX12_90 imX12_of seX12_X12_of_X12_of mwX12_of (Nat.le_of_ble_eq_true rfl) (c_of hM hl (by decide)) ?_
    rcases (k6 hk hk6) with hx | hx | hx | hx | hx | hx
    · have hy : knd (mi 1) l = 0 := hx
      rw [hx]
      refine r_tabOut (μ := mX12_minutes) (pc := 42) (tgt := 86) dX12_minutes_42 (by decide) (by decide) ?_
      refine r_iload_n (μ := mX12_minutes) (pc := 86) dX12_minutes_86 rfl rfl ?_
      exact r_iret (μ := mX12_minutes) (pc := 87) dX12_minutes_87 rfl rfl (PI_i (by simp [mntN, minK, riseN, hgt, hy, *]))
    · have hy : knd (mi 1) l = 1 := hx
      rw [hx]
      refine r_tabIn (μ := mX12_minutes) (pc := 42) (tgt := 72) dX12_minutes_42 (by decide) (by decide) rfl (by decide) ?_
      refine r_iconst (μ := mX12_minutes) (pc := 72) (v := 2) dX12_minutes_72 ic_2 ?_
      refine r_iload_n (μ := mX12_minutes) (pc := 73) dX12_minutes_73 rfl rfl ?_
      refine r_imul (μ := mX12_minutes) (pc := 74) dX12_minutes_74 ?_
      exact r_iret (μ := mX12_minutes) (pc := 75) dX12_minutes_75 rfl rfl (PI_i (by simp [mntN, minK, riseN, hgt, hy, *]))
    · have hy : knd (mi 1) l = 2 := hx
      rw [hx]
      refine r_tabIn (μ := mX12_minutes) (pc := 42) (tgt := 82) dX12_minutes_42 (by decide) (by decide) rfl (by decide) ?_
      refine r_iload_n (μ := mX12_minutes) (pc := 82) dX12_minutes_82 rfl rfl ?_
      refine r_iconst (μ := mX12_minutes) (pc := 83) (v := 1) dX12_minutes_83 ic_1 ?_
      refine r_iadd (μ := mX12_minutes) (pc := 84) dX12_minutes_84 ?_
      exact r_iret (μ := mX12_minutes) (pc := 85) dX12_minutes_85 rfl rfl (PI_i (by simp [mntN, minK, riseN, hgt, hy, *]))
    · have hy : knd (mi 1) l = 3 := hx
      rw [hx]
      refine r_tabIn (μ := mX12_minutes) (pc := 42) (tgt := 76) dX12_minutes_42 (by decide) (by decide) rfl (by decide) ?_
      refine r_iconst (μ := mX12_minutes) (pc := 76) (v := 2) dX12_minutes_76 ic_2 ?_
      refine r_iload_n (μ := mX12_minutes) (pc := 77) dX12_minutes_77 rfl rfl ?_
      refine r_imul (μ := mX12_minutes) (pc := 78) dX12_minutes_78 ?_
      refine r_iconst (μ := mX12_minutes) (pc := 79) (v := 1) dX12_minutes_79 ic_1 ?_
      refine r_isub (μ := mX12_minutes) (pc := 80) dX12_minutes_80 ?_
      exact r_iret (μ := mX12_minutes) (pc := 81) dX12_minutes_81 rfl rfl (PI_i (by simp [mntN, minK, riseN, hgt, hy, *]))
    · have hy : knd (mi 1) l = 4 := hx
      rw [hx]
      refine r_tabIn (μ := mX12_minutes) (pc := 42) (tgt := 82) dX12_minutes_42 (by decide) (by decide) rfl (by decide) ?_
      refine r_iload_n (μ := mX12_minutes) (pc := 82) dX12_minutes_82 rfl rfl ?_
      refine r_iconst (μ := mX12_minutes) (pc := 83) (v := 1) dX12_minutes_83 ic_1 ?_
      refine r_iadd (μ := mX12_minutes) (pc := 84) dX12_minutes_84 ?_
      exact r_iret (μ := mX12_minutes) (pc := 85) dX12_minutes_85 rfl rfl (PI_i (by simp [mntN, minK, riseN, hgt, hy, *]))
    · have hy : knd (mi 1) l = 5 := hx
      rw [hx]
      refine r_tabOut (μ := mX12_minutes) (pc := 42) (tgt := 86) dX12_minutes_42 (by decide) (by decide) ?_
      refine r_iload_n (μ := mX12_minutes) (pc := 86) dX12_minutes_86 rfl rfl ?_
      exact r_iret (μ := mX12_minutes) (pc := 87) dX12_minutes_87 rfl rfl (PI_i (by simp [mntN, minK, riseN, hgt, hy, *]))

theorem c_isOf {d : Nat} {sh : List Sh} {mi : MI} {mr : MR} {a b : Int32} : CP d mX12_isOf [.int a, .int b] sh mi mr 0 0 (PI (b2i (isOfB a b)) sh mi mr) := by
  refine CP.of (L := [_, _]) (by decide) rfl rfl (Nat.le_of_ble_eq_true rfl) ?_
  refine r_iload_n (μ := mX12_isOf) (pc := 0) dX12_isOf_0 rfl rfl ?_
  refine r_iload_n (μ := mX12_isOf) (pc := 1) dX12_isOf_1 rfl rfl ?_
  refine r_icmp_eq (μ := mX12_isOf) (pc := 2) (tgt := 29) dX12_isOf_2 (by decide) (fun h_2 => ?_) (fun h_2 => ?_)
  · refine r_iconst (μ := mX12_isOf) (pc := 29) (v := 1) dX12_isOf_29 ic_1 ?_
    refine r_goto (μ := mX12_isOf) (pc := 30) (tgt := 34) dX12_isOf_30 (by decide) ?_
    exact r_iret (μ := mX12_isOf) (pc := 34) dX12_isOf_34 rfl rfl (PI_i (by first | (simp [isOfB, b2i, *]; done) | (simp_all [isOfB, b2i]; done) | (exfalso; rw [h_11] at h_21; exact absurd h_21 (by decide))))
  · refine r_iload_n (μ := mX12_isOf) (pc := 5) dX12_isOf_5 rfl rfl ?_
    refine r_if_eq (μ := mX12_isOf) (pc := 6) (tgt := 29) dX12_isOf_6 (by decide) (fun h_6 => ?_) (fun h_6 => ?_)
    · refine r_iconst (μ := mX12_isOf) (pc := 29) (v := 1) dX12_isOf_29 ic_1 ?_
      refine r_goto (μ := mX12_isOf) (pc := 30) (tgt := 34) dX12_isOf_30 (by decide) ?_
      exact r_iret (μ := mX12_isOf) (pc := 34) dX12_isOf_34 rfl rfl (PI_i (by first | (simp [isOfB, b2i, *]; done) | (simp_all [isOfB, b2i]; done) | (exfalso; rw [h_11] at h_21; exact absurd h_21 (by decide))))
    · refine r_iload_n (μ := mX12_isOf) (pc := 9) dX12_isOf_9 rfl rfl ?_
      refine r_iconst (μ := mX12_isOf) (pc := 10) (v := 1) dX12_isOf_10 ic_1 ?_
      refine r_icmp_ne (μ := mX12_isOf) (pc := 11) (tgt := 19) dX12_isOf_11 (by decide) (fun h_11 => ?_) (fun h_11 => ?_)
      · refine r_iload_n (μ := mX12_isOf) (pc := 19) dX12_isOf_19 rfl rfl ?_
        refine r_iconst (μ := mX12_isOf) (pc := 20) (v := 2) dX12_isOf_20 ic_2 ?_
        refine r_icmp_ne (μ := mX12_isOf) (pc := 21) (tgt := 33) dX12_isOf_21 (by decide) (fun h_21 => ?_) (fun h_21 => ?_)
        · refine r_iconst (μ := mX12_isOf) (pc := 33) (v := 0) dX12_isOf_33 ic_0 ?_
          exact r_iret (μ := mX12_isOf) (pc := 34) dX12_isOf_34 rfl rfl (PI_i (by first | (simp [isOfB, b2i, *]; done) | (simp_all [isOfB, b2i]; done) | (exfalso; rw [h_11] at h_21; exact absurd h_21 (by decide))))
        · refine r_iload_n (μ := mX12_isOf) (pc := 24) dX12_isOf_24 rfl rfl ?_
          refine r_iconst (μ := mX12_isOf) (pc := 25) (v := 4) dX12_isOf_25 ic_4 ?_
          refine r_icmp_ne (μ := mX12_isOf) (pc := 26) (tgt := 33) dX12_isOf_26 (by decide) (fun h_26 => ?_) (fun h_26 => ?_)
          · refine r_iconst (μ := mX12_isOf) (pc := 33) (v := 0) dX12_isOf_33 ic_0 ?_
            exact r_iret (μ := mX12_isOf) (pc := 34) dX12_isOf_34 rfl rfl (PI_i (by first | (simp [isOfB, b2i, *]; done) | (simp_all [isOfB, b2i]; done) | (exfalso; rw [h_11] at h_21; exact absurd h_21 (by decide))))
          · refine r_iconst (μ := mX12_isOf) (pc := 29) (v := 1) dX12_isOf_29 ic_1 ?_
            refine r_goto (μ := mX12_isOf) (pc := 30) (tgt := 34) dX12_isOf_30 (by decide) ?_
            exact r_iret (μ := mX12_isOf) (pc := 34) dX12_isOf_34 rfl rfl (PI_i (by first | (simp [isOfB, b2i, *]; done) | (simp_all [isOfB, b2i]; done) | (exfalso; rw [h_11] at h_21; exact absurd h_21 (by decide))))
      · refine r_iload_n (μ := mX12_isOf) (pc := 14) dX12_isOf_14 rfl rfl ?_
        refine r_iconst (μ := mX12_isOf) (pc := 15) (v := 3) dX12_isOf_15 ic_3 ?_
        refine r_icmp_eq (μ := mX12_isOf) (pc := 16) (tgt := 29) dX12_isOf_16 (by decide) (fun h_16 => ?_) (fun h_16 => ?_)
        · refine r_iconst (μ := mX12_isOf) (pc := 29) (v := 1) dX12_isOf_29 ic_1 ?_
          refine r_goto (μ := mX12_isOf) (pc := 30) (tgt := 34) dX12_isOf_30 (by decide) ?_
          exact r_iret (μ := mX12_isOf) (pc := 34) dX12_isOf_34 rfl rfl (PI_i (by first | (simp [isOfB, b2i, *]; done) | (simp_all [isOfB, b2i]; done) | (exfalso; rw [h_11] at h_21; exact absurd h_21 (by decide))))
        · refine r_iload_n (μ := mX12_isOf) (pc := 19) dX12_isOf_19 rfl rfl ?_
          refine r_iconst (μ := mX12_isOf) (pc := 20) (v := 2) dX12_isOf_20 ic_2 ?_
          refine r_icmp_ne (μ := mX12_isOf) (pc := 21) (tgt := 33) dX12_isOf_21 (by decide) (fun h_21 => ?_) (fun h_21 => ?_)
          · refine r_iconst (μ := mX12_isOf) (pc := 33) (v := 0) dX12_isOf_33 ic_0 ?_
            exact r_iret (μ := mX12_isOf) (pc := 34) dX12_isOf_34 rfl rfl (PI_i (by first | (simp [isOfB, b2i, *]; done) | (simp_all [isOfB, b2i]; done) | (exfalso; rw [h_11] at h_21; exact absurd h_21 (by decide))))
          · refine r_iload_n (μ := mX12_isOf) (pc := 24) dX12_isOf_24 rfl rfl ?_
            refine r_iconst (μ := mX12_isOf) (pc := 25) (v := 4) dX12_isOf_25 ic_4 ?_
            refine r_icmp_ne (μ := mX12_isOf) (pc := 26) (tgt := 33) dX12_isOf_26 (by decide) (fun h_26 => ?_) (fun h_26 => ?_)
            · refine r_iconst (μ := mX12_isOf) (pc := 33) (v := 0) dX12_isOf_33 ic_0 ?_
              exact r_iret (μ := mX12_isOf) (pc := 34) dX12_isOf_34 rfl rfl (PI_i (by first | (simp [isOfB, b2i, *]; done) | (simp_all [isOfB, b2i]; done) | (exfalso; rw [h_11] at h_21; exact absurd h_21 (by decide))))
            · refine r_iconst (μ := mX12_isOf) (pc := 29) (v := 1) dX12_isOf_29 ic_1 ?_
              refine r_goto (μ := mX12_isOf) (pc := 30) (tgt := 34) dX12_isOf_30 (by decide) ?_
              exact r_iret (μ := mX12_isOf) (pc := 34) dX12_isOf_34 rfl rfl (PI_i (by first | (simp [isOfB, b2i, *]; done) | (simp_all [isOfB, b2i]; done) | (exfalso; rw [h_11] at h_21; exact absurd h_21 (by decide))))

theorem c_as_bad {d : Nat} {mi : MI} {mr : MR} (hM : MB mr) {m : Nat} (hm : mi 1 1 = nI m) (hm8 : m ≤ 8) {x w : Int32} (hb : ¬ (inR x m = true ∧ inB w 0 5 = true)) : CP (d + 2) mX12_as [.ref 0, .int x, .int w] shM mi mr 0 0 (PI (BADc) shM mi mr) := by
  refine CP.of (L := [_, _, _]) (by decide) rfl rfl (Nat.le_of_ble_eq_true rfl) ?_
  refine r_aload_n (μ := mX12_as) (pc := 0) dX12_as_0 rfl rfl rfl ?_
  refine r_iload_n (μ := mX12_as) (pc := 1) dX12_as_1 rfl rfl ?_
  refine vP1 (μ := mX12_as) (pc := 2) (c0 := 12) (q0 := (RX12, TX12, 34)) (μ2 := mX12_isLadder) dX12_as_2 rfl rfl lkX12_137 imX12_isLadder seX12_X12_isLadder_X12_isLadder mwX12_isLadder (Nat.le_of_ble_eq_true rfl) (c_isLadder hM hm (by omega)) ?_
  refine r_if_eq (μ := mX12_as) (pc := 5) (tgt := 20) dX12_as_5 (by decide) (fun h_5 => ?_) (fun h_5 => ?_)
  · have h_5 := b2i_0 h_5
    refine r_ldc (μ := mX12_as) (pc := 20) dX12_as_20 ctX12_78 ?_
    exact r_iret (μ := mX12_as) (pc := 22) dX12_as_22 rfl rfl (PI_i rfl)
  · have h_5 := b2i_1 h_5
    refine r_iload_n (μ := mX12_as) (pc := 8) dX12_as_8 rfl rfl ?_
    refine r_i2l (μ := mX12_as) (pc := 9) dX12_as_9 ?_
    refine r_lconst (μ := mX12_as) (pc := 10) (v := 0) dX12_as_10 lc_0 ?_
    refine r_ldc2 (μ := mX12_as) (pc := 11) dX12_as_11 clX12_106 ?_
    refine sP3 (μ := mX12_as) (pc := 14) (μ2 := mX12_isIn) dX12_as_14 lkX12_65 stX12_isIn mwX12_isIn (Nat.le_of_ble_eq_true rfl) (c_isInK il_0 il_5) ?_
    refine r_if_ne (μ := mX12_as) (pc := 17) (tgt := 23) dX12_as_17 (by decide) (fun h_17 => ?_) (fun h_17 => ?_)
    · have h_17 := b2i_1 h_17
      exact absurd ⟨h_5, h_17⟩ hb
    · have h_17 := b2i_0 h_17
      refine r_ldc (μ := mX12_as) (pc := 20) dX12_as_20 ctX12_78 ?_
      exact r_iret (μ := mX12_as) (pc := 22) dX12_as_22 rfl rfl (PI_i rfl)

theorem c_as {d : Nat} {mi : MI} {mr : MR} (hM : MB mr) {m : Nat} (hm : mi 1 1 = nI m) (hm8 : m ≤ 8) {l : Nat} {w : Int32} (hl : l < m) (hw : inB w 0 5 = true) : CP (d + 2) mX12_as [.ref 0, .int (nI l), .int w] shM mi mr 0 0 (PI (if isOfB (knd (mi 1) l) w then lng (mi 1) l else KINDc) shM mi mr) := by
  refine CP.of (L := [_, _, _]) (by decide) rfl rfl (Nat.le_of_ble_eq_true rfl) ?_
  refine r_aload_n (μ := mX12_as) (pc := 0) dX12_as_0 rfl rfl rfl ?_
  refine r_iload_n (μ := mX12_as) (pc := 1) dX12_as_1 rfl rfl ?_
  refine vP1 (μ := mX12_as) (pc := 2) (c0 := 12) (q0 := (RX12, TX12, 34)) (μ2 := mX12_isLadder) dX12_as_2 rfl rfl lkX12_137 imX12_isLadder seX12_X12_isLadder_X12_isLadder mwX12_isLadder (Nat.le_of_ble_eq_true rfl) (c_isLadder hM hm (by omega)) ?_
  refine r_if_eq (μ := mX12_as) (pc := 5) (tgt := 20) dX12_as_5 (by decide) (fun h_5 => absurd h_5 (b2i_ne (inR_nI hl (by omega)))) (fun h_5 => ?_)
  refine r_iload_n (μ := mX12_as) (pc := 8) dX12_as_8 rfl rfl ?_
  refine r_i2l (μ := mX12_as) (pc := 9) dX12_as_9 ?_
  refine r_lconst (μ := mX12_as) (pc := 10) (v := 0) dX12_as_10 lc_0 ?_
  refine r_ldc2 (μ := mX12_as) (pc := 11) dX12_as_11 clX12_106 ?_
  refine sP3 (μ := mX12_as) (pc := 14) (μ2 := mX12_isIn) dX12_as_14 lkX12_65 stX12_isIn mwX12_isIn (Nat.le_of_ble_eq_true rfl) (c_isInK il_0 il_5) ?_
  refine r_if_ne (μ := mX12_as) (pc := 17) (tgt := 23) dX12_as_17 (by decide) (fun h_17 => ?_) (fun h_17 => absurd h_17 (b2i_ne hw))
  refine r_aload_n (μ := mX12_as) (pc := 23) dX12_as_23 rfl rfl rfl ?_
  refine r_iload_n (μ := mX12_as) (pc := 24) dX12_as_24 rfl rfl ?_
  refine r_iconst (μ := mX12_as) (pc := 25) (v := 0) dX12_as_25 ic_0 ?_
  refine vP2 (μ := mX12_as) (pc := 26) (c0 := 12) (q0 := (RX12, TX12, 34)) (μ2 := mX12_of) dX12_as_26 rfl rfl lkX12_90 imX12_of seX12_X12_of_X12_of mwX12_of (Nat.le_of_ble_eq_true rfl) (c_of hM (by omega) (by decide)) ?_
  refine r_iload_n (μ := mX12_as) (pc := 29) dX12_as_29 rfl rfl ?_
  refine sP2 (μ := mX12_as) (pc := 30) (μ2 := mX12_isOf) dX12_as_30 lkX12_152 stX12_isOf mwX12_isOf (Nat.le_of_ble_eq_true rfl) c_isOf ?_
  refine r_if_eq (μ := mX12_as) (pc := 33) (tgt := 45) dX12_as_33 (by decide) (fun h_33 => ?_) (fun h_33 => ?_)
  · have h_33 := b2i_0 h_33
    refine r_ldc (μ := mX12_as) (pc := 45) dX12_as_45 ctX12_155 ?_
    exact r_iret (μ := mX12_as) (pc := 47) dX12_as_47 rfl rfl (PI_i (by first | (rw [if_pos (show isOfB (knd (mi 1) l) w = true from h_33)]; rfl) | (rw [if_neg (by rw [show isOfB (knd (mi 1) l) w = false from h_33]; decide)]; rfl)))
  · have h_33 := b2i_1 h_33
    refine r_aload_n (μ := mX12_as) (pc := 36) dX12_as_36 rfl rfl rfl ?_
    refine r_iload_n (μ := mX12_as) (pc := 37) dX12_as_37 rfl rfl ?_
    refine r_iconst (μ := mX12_as) (pc := 38) (v := 1) dX12_as_38 ic_1 ?_
    refine vP2 (μ := mX12_as) (pc := 39) (c0 := 12) (q0 := (RX12, TX12, 34)) (μ2 := mX12_of) dX12_as_39 rfl rfl lkX12_90 imX12_of seX12_X12_of_X12_of mwX12_of (Nat.le_of_ble_eq_true rfl) (c_of hM (by omega) (by decide)) ?_
    refine r_goto (μ := mX12_as) (pc := 42) (tgt := 47) dX12_as_42 (by decide) ?_
    exact r_iret (μ := mX12_as) (pc := 47) dX12_as_47 rfl rfl (PI_i (by first | (rw [if_pos (show isOfB (knd (mi 1) l) w = true from h_33)]; rfl) | (rw [if_neg (by rw [show isOfB (knd (mi 1) l) w = false from h_33]; decide)]; rfl)))

theorem c_turns_bad {d : Nat} {mi : MI} {mr : MR} (hM : MB mr) {m : Nat} (hm : mi 1 1 = nI m) (hm8 : m ≤ 8) {x w : Int32} (hb : ¬ (inR x m = true ∧ inB w 0 5 = true)) : CP (d + 2) mX12_turns [.ref 0, .int x, .int w] shM mi mr 0 0 (PI (BADc) shM mi mr) := by
  refine CP.of (L := [_, _, _]) (by decide) rfl rfl (Nat.le_of_ble_eq_true rfl) ?_
  refine r_aload_n (μ := mX12_turns) (pc := 0) dX12_turns_0 rfl rfl rfl ?_
  refine r_iload_n (μ := mX12_turns) (pc := 1) dX12_turns_1 rfl rfl ?_
  refine vP1 (μ := mX12_turns) (pc := 2) (c0 := 12) (q0 := (RX12, TX12, 34)) (μ2 := mX12_isLadder) dX12_turns_2 rfl rfl lkX12_137 imX12_isLadder seX12_X12_isLadder_X12_isLadder mwX12_isLadder (Nat.le_of_ble_eq_true rfl) (c_isLadder hM hm (by omega)) ?_
  refine r_if_eq (μ := mX12_turns) (pc := 5) (tgt := 34) dX12_turns_5 (by decide) (fun h_5 => ?_) (fun h_5 => ?_)
  · have h_5 := b2i_0 h_5
    refine r_ldc (μ := mX12_turns) (pc := 34) dX12_turns_34 ctX12_78 ?_
    exact r_iret (μ := mX12_turns) (pc := 36) dX12_turns_36 rfl rfl (PI_i rfl)
  · have h_5 := b2i_1 h_5
    refine r_iload_n (μ := mX12_turns) (pc := 8) dX12_turns_8 rfl rfl ?_
    refine r_i2l (μ := mX12_turns) (pc := 9) dX12_turns_9 ?_
    refine r_lconst (μ := mX12_turns) (pc := 10) (v := 0) dX12_turns_10 lc_0 ?_
    refine r_ldc2 (μ := mX12_turns) (pc := 11) dX12_turns_11 clX12_106 ?_
    refine sP3 (μ := mX12_turns) (pc := 14) (μ2 := mX12_isIn) dX12_turns_14 lkX12_65 stX12_isIn mwX12_isIn (Nat.le_of_ble_eq_true rfl) (c_isInK il_0 il_5) ?_
    refine r_if_eq (μ := mX12_turns) (pc := 17) (tgt := 34) dX12_turns_17 (by decide) (fun h_17 => ?_) (fun h_17 => ?_)
    · have h_17 := b2i_0 h_17
      refine r_ldc (μ := mX12_turns) (pc := 34) dX12_turns_34 ctX12_78 ?_
      exact r_iret (μ := mX12_turns) (pc := 36) dX12_turns_36 rfl rfl (PI_i rfl)
    · have h_17 := b2i_1 h_17
      exact absurd ⟨h_5, h_17⟩ hb

theorem c_turns {d : Nat} {mi : MI} {mr : MR} (hM : MB mr) {m : Nat} (hm : mi 1 1 = nI m) (hm8 : m ≤ 8) {l : Nat} {w : Int32} (hl : l < m) (hw : inB w 0 5 = true) : CP (d + 2) mX12_turns [.ref 0, .int (nI l), .int w] shM mi mr 0 0 (PX shM mr (fun r mi2 => r = mi 1 (28 + 5 * l) ∧ mi2 = upI mi 1 (28 + 5 * l) w)) := by
  refine CP.of (L := [_, _, _]) (by decide) rfl rfl (Nat.le_of_ble_eq_true rfl) ?_
  refine r_aload_n (μ := mX12_turns) (pc := 0) dX12_turns_0 rfl rfl rfl ?_
  refine r_iload_n (μ := mX12_turns) (pc := 1) dX12_turns_1 rfl rfl ?_
  refine vP1 (μ := mX12_turns) (pc := 2) (c0 := 12) (q0 := (RX12, TX12, 34)) (μ2 := mX12_isLadder) dX12_turns_2 rfl rfl lkX12_137 imX12_isLadder seX12_X12_isLadder_X12_isLadder mwX12_isLadder (Nat.le_of_ble_eq_true rfl) (c_isLadder hM hm (by omega)) ?_
  refine r_if_eq (μ := mX12_turns) (pc := 5) (tgt := 34) dX12_turns_5 (by decide) (fun h_5 => absurd h_5 (b2i_ne (inR_nI hl (by omega)))) (fun h_5 => ?_)
  refine r_iload_n (μ := mX12_turns) (pc := 8) dX12_turns_8 rfl rfl ?_
  refine r_i2l (μ := mX12_turns) (pc := 9) dX12_turns_9 ?_
  refine r_lconst (μ := mX12_turns) (pc := 10) (v := 0) dX12_turns_10 lc_0 ?_
  refine r_ldc2 (μ := mX12_turns) (pc := 11) dX12_turns_11 clX12_106 ?_
  refine sP3 (μ := mX12_turns) (pc := 14) (μ2 := mX12_isIn) dX12_turns_14 lkX12_65 stX12_isIn mwX12_isIn (Nat.le_of_ble_eq_true rfl) (c_isInK il_0 il_5) ?_
  refine r_if_eq (μ := mX12_turns) (pc := 17) (tgt := 34) dX12_turns_17 (by decide) (fun h_17 => absurd h_17 (b2i_ne hw)) (fun h_17 => ?_)
  refine r_aload_n (μ := mX12_turns) (pc := 20) dX12_turns_20 rfl rfl rfl ?_
  refine r_bipush (μ := mX12_turns) (pc := 21) (v := 28) dX12_turns_21 bp_28 ?_
  refine r_iconst (μ := mX12_turns) (pc := 23) (v := 5) dX12_turns_23 ic_5 ?_
  refine r_iload_n (μ := mX12_turns) (pc := 24) dX12_turns_24 rfl rfl ?_
  refine r_imul (μ := mX12_turns) (pc := 25) dX12_turns_25 ?_
  refine r_iadd (μ := mX12_turns) (pc := 26) dX12_turns_26 ?_
  refine r_iload_n (μ := mX12_turns) (pc := 27) dX12_turns_27 rfl rfl ?_
  refine vX2 (μ := mX12_turns) (pc := 28) (c0 := 12) (q0 := (RX12, TX12, 34)) (μ2 := mX12_becomes) dX12_turns_28 rfl rfl lkX12_97 imX12_becomes seX12_X12_becomes_X12_becomes mwX12_becomes (Nat.le_of_ble_eq_true rfl) (c_becomesE hM (k := 28 + 5 * l) (by simp only [← nI_add, ← pk_mul]; rfl) (by omega)) (fun r_28 mi_28 h_28 => ?_)
  refine r_goto (μ := mX12_turns) (pc := 31) (tgt := 36) dX12_turns_31 (by decide) ?_
  exact r_iret (μ := mX12_turns) (pc := 36) dX12_turns_36 rfl rfl (PX_i h_28)

theorem c_cut_bad {d : Nat} {mi : MI} {mr : MR} (hM : MB mr) {m : Nat} (hm : mi 1 1 = nI m) (hm8 : m ≤ 8) {x w : Int32} (hb : ¬ (inR x m = true ∧ inB w 1 99 = true)) : CP (d + 2) mX12_cut [.ref 0, .int x, .int w] shM mi mr 0 0 (PI (BADc) shM mi mr) := by
  refine CP.of (L := [_, _, _]) (by decide) rfl rfl (Nat.le_of_ble_eq_true rfl) ?_
  refine r_aload_n (μ := mX12_cut) (pc := 0) dX12_cut_0 rfl rfl rfl ?_
  refine r_iload_n (μ := mX12_cut) (pc := 1) dX12_cut_1 rfl rfl ?_
  refine vP1 (μ := mX12_cut) (pc := 2) (c0 := 12) (q0 := (RX12, TX12, 34)) (μ2 := mX12_isLadder) dX12_cut_2 rfl rfl lkX12_137 imX12_isLadder seX12_X12_isLadder_X12_isLadder mwX12_isLadder (Nat.le_of_ble_eq_true rfl) (c_isLadder hM hm (by omega)) ?_
  refine r_if_eq (μ := mX12_cut) (pc := 5) (tgt := 36) dX12_cut_5 (by decide) (fun h_5 => ?_) (fun h_5 => ?_)
  · have h_5 := b2i_0 h_5
    refine r_ldc (μ := mX12_cut) (pc := 36) dX12_cut_36 ctX12_78 ?_
    exact r_iret (μ := mX12_cut) (pc := 38) dX12_cut_38 rfl rfl (PI_i rfl)
  · have h_5 := b2i_1 h_5
    refine r_iload_n (μ := mX12_cut) (pc := 8) dX12_cut_8 rfl rfl ?_
    refine r_i2l (μ := mX12_cut) (pc := 9) dX12_cut_9 ?_
    refine r_lconst (μ := mX12_cut) (pc := 10) (v := 1) dX12_cut_10 lc_1 ?_
    refine r_ldc2 (μ := mX12_cut) (pc := 11) dX12_cut_11 clX12_74 ?_
    refine sP3 (μ := mX12_cut) (pc := 14) (μ2 := mX12_isIn) dX12_cut_14 lkX12_65 stX12_isIn mwX12_isIn (Nat.le_of_ble_eq_true rfl) (c_isInK il_1 il_99) ?_
    refine r_if_eq (μ := mX12_cut) (pc := 17) (tgt := 36) dX12_cut_17 (by decide) (fun h_17 => ?_) (fun h_17 => ?_)
    · have h_17 := b2i_0 h_17
      refine r_ldc (μ := mX12_cut) (pc := 36) dX12_cut_36 ctX12_78 ?_
      exact r_iret (μ := mX12_cut) (pc := 38) dX12_cut_38 rfl rfl (PI_i rfl)
    · have h_17 := b2i_1 h_17
      exact absurd ⟨h_5, h_17⟩ hb

theorem c_cut {d : Nat} {mi : MI} {mr : MR} (hM : MB mr) {m : Nat} (hm : mi 1 1 = nI m) (hm8 : m ≤ 8) {l : Nat} {w : Int32} (hl : l < m) (hw : inB w 1 99 = true) : CP (d + 2) mX12_cut [.ref 0, .int (nI l), .int w] shM mi mr 0 0 (PX shM mr (fun r mi2 => r = mi 1 (28 + 5 * l + 1) ∧ mi2 = upI mi 1 (28 + 5 * l + 1) w)) := by
  refine CP.of (L := [_, _, _]) (by decide) rfl rfl (Nat.le_of_ble_eq_true rfl) ?_
  refine r_aload_n (μ := mX12_cut) (pc := 0) dX12_cut_0 rfl rfl rfl ?_
  refine r_iload_n (μ := mX12_cut) (pc := 1) dX12_cut_1 rfl rfl ?_
  refine vP1 (μ := mX12_cut) (pc := 2) (c0 := 12) (q0 := (RX12, TX12, 34)) (μ2 := mX12_isLadder) dX12_cut_2 rfl rfl lkX12_137 imX12_isLadder seX12_X12_isLadder_X12_isLadder mwX12_isLadder (Nat.le_of_ble_eq_true rfl) (c_isLadder hM hm (by omega)) ?_
  refine r_if_eq (μ := mX12_cut) (pc := 5) (tgt := 36) dX12_cut_5 (by decide) (fun h_5 => absurd h_5 (b2i_ne (inR_nI hl (by omega)))) (fun h_5 => ?_)
  refine r_iload_n (μ := mX12_cut) (pc := 8) dX12_cut_8 rfl rfl ?_
  refine r_i2l (μ := mX12_cut) (pc := 9) dX12_cut_9 ?_
  refine r_lconst (μ := mX12_cut) (pc := 10) (v := 1) dX12_cut_10 lc_1 ?_
  refine r_ldc2 (μ := mX12_cut) (pc := 11) dX12_cut_11 clX12_74 ?_
  refine sP3 (μ := mX12_cut) (pc := 14) (μ2 := mX12_isIn) dX12_cut_14 lkX12_65 stX12_isIn mwX12_isIn (Nat.le_of_ble_eq_true rfl) (c_isInK il_1 il_99) ?_
  refine r_if_eq (μ := mX12_cut) (pc := 17) (tgt := 36) dX12_cut_17 (by decide) (fun h_17 => absurd h_17 (b2i_ne hw)) (fun h_17 => ?_)
  refine r_aload_n (μ := mX12_cut) (pc := 20) dX12_cut_20 rfl rfl rfl ?_
  refine r_bipush (μ := mX12_cut) (pc := 21) (v := 28) dX12_cut_21 bp_28 ?_
  refine r_iconst (μ := mX12_cut) (pc := 23) (v := 5) dX12_cut_23 ic_5 ?_
  refine r_iload_n (μ := mX12_cut) (pc := 24) dX12_cut_24 rfl rfl ?_
  refine r_imul (μ := mX12_cut) (pc := 25) dX12_cut_25 ?_
  refine r_iadd (μ := mX12_cut) (pc := 26) dX12_cut_26 ?_
  refine r_iconst (μ := mX12_cut) (pc := 27) (v := 1) dX12_cut_27 ic_1 ?_
  refine r_iadd (μ := mX12_cut) (pc := 28) dX12_cut_28 ?_
  refine r_iload_n (μ := mX12_cut) (pc := 29) dX12_cut_29 rfl rfl ?_
  refine vX2 (μ := mX12_cut) (pc := 30) (c0 := 12) (q0 := (RX12, TX12, 34)) (μ2 := mX12_becomes) dX12_cut_30 rfl rfl lkX12_97 imX12_becomes seX12_X12_becomes_X12_becomes mwX12_becomes (Nat.le_of_ble_eq_true rfl) (c_becomesE hM (k := 28 + 5 * l + 1) (by simp only [← nI_add, ← pk_mul]; rfl) (by omega)) (fun r_30 mi_30 h_30 => ?_)
  refine r_goto (μ := mX12_cut) (pc := 33) (tgt := 38) dX12_cut_33 (by decide) ?_
  exact r_iret (μ := mX12_cut) (pc := 38) dX12_cut_38 rfl rfl (PX_i h_30)

theorem c_person_bad {d : Nat} {mi : MI} {mr : MR} (hM : MB mr) {n : Nat} (hn : mi 1 0 = nI n) (hn10 : n ≤ 10) {x w : Int32} (hb : ¬ (inR x n = true ∧ inB w 0 99 = true)) : CP (d + 2) mX12_person [.ref 0, .int x, .int w] shM mi mr 0 0 (PI (BADc) shM mi mr) := by
  refine CP.of (L := [_, _, _, _]) (by decide) rfl rfl (Nat.le_of_ble_eq_true rfl) ?_
  refine r_aload_n (μ := mX12_person) (pc := 0) dX12_person_0 rfl rfl rfl ?_
  refine r_iload_n (μ := mX12_person) (pc := 1) dX12_person_1 rfl rfl ?_
  refine vP1 (μ := mX12_person) (pc := 2) (c0 := 12) (q0 := (RX12, TX12, 34)) (μ2 := mX12_isLedge) dX12_person_2 rfl rfl lkX12_84 imX12_isLedge seX12_X12_isLedge_X12_isLedge mwX12_isLedge (Nat.le_of_ble_eq_true rfl) (c_isLedge hM hn (by omega)) ?_
  refine r_if_eq (μ := mX12_person) (pc := 5) (tgt := 20) dX12_person_5 (by decide) (fun h_5 => ?_) (fun h_5 => ?_)
  · have h_5 := b2i_0 h_5
    refine r_ldc (μ := mX12_person) (pc := 20) dX12_person_20 ctX12_78 ?_
    exact r_iret (μ := mX12_person) (pc := 22) dX12_person_22 rfl rfl (PI_i rfl)
  · have h_5 := b2i_1 h_5
    refine r_iload_n (μ := mX12_person) (pc := 8) dX12_person_8 rfl rfl ?_
    refine r_i2l (μ := mX12_person) (pc := 9) dX12_person_9 ?_
    refine r_lconst (μ := mX12_person) (pc := 10) (v := 0) dX12_person_10 lc_0 ?_
    refine r_ldc2 (μ := mX12_person) (pc := 11) dX12_person_11 clX12_74 ?_
    refine sP3 (μ := mX12_person) (pc := 14) (μ2 := mX12_isIn) dX12_person_14 lkX12_65 stX12_isIn mwX12_isIn (Nat.le_of_ble_eq_true rfl) (c_isInK il_0 il_99) ?_
    refine r_if_ne (μ := mX12_person) (pc := 17) (tgt := 23) dX12_person_17 (by decide) (fun h_17 => ?_) (fun h_17 => ?_)
    · have h_17 := b2i_1 h_17
      exact absurd ⟨h_5, h_17⟩ hb
    · have h_17 := b2i_0 h_17
      refine r_ldc (μ := mX12_person) (pc := 20) dX12_person_20 ctX12_78 ?_
      exact r_iret (μ := mX12_person) (pc := 22) dX12_person_22 rfl rfl (PI_i rfl)

theorem c_person_full {d : Nat} {mi : MI} {mr : MR} (hM : MB mr) {n : Nat} (hn : mi 1 0 = nI n) (hn10 : n ≤ 10) {x w : Int32} (h1 : inR x n = true) (h2 : inB w 0 99 = true) (hp : mi 1 2 = 6) : CP (d + 2) mX12_person [.ref 0, .int x, .int w] shM mi mr 0 0 (PI (FULLc) shM mi mr) := by
  refine CP.of (L := [_, _, _, _]) (by decide) rfl rfl (Nat.le_of_ble_eq_true rfl) ?_
  refine r_aload_n (μ := mX12_person) (pc := 0) dX12_person_0 rfl rfl rfl ?_
  refine r_iload_n (μ := mX12_person) (pc := 1) dX12_person_1 rfl rfl ?_
  refine vP1 (μ := mX12_person) (pc := 2) (c0 := 12) (q0 := (RX12, TX12, 34)) (μ2 := mX12_isLedge) dX12_person_2 rfl rfl lkX12_84 imX12_isLedge seX12_X12_isLedge_X12_isLedge mwX12_isLedge (Nat.le_of_ble_eq_true rfl) (c_isLedge hM hn (by omega)) ?_
  refine r_if_eq (μ := mX12_person) (pc := 5) (tgt := 20) dX12_person_5 (by decide) (fun h_5 => absurd h_5 (b2i_ne h1)) (fun h_5 => ?_)
  refine r_iload_n (μ := mX12_person) (pc := 8) dX12_person_8 rfl rfl ?_
  refine r_i2l (μ := mX12_person) (pc := 9) dX12_person_9 ?_
  refine r_lconst (μ := mX12_person) (pc := 10) (v := 0) dX12_person_10 lc_0 ?_
  refine r_ldc2 (μ := mX12_person) (pc := 11) dX12_person_11 clX12_74 ?_
  refine sP3 (μ := mX12_person) (pc := 14) (μ2 := mX12_isIn) dX12_person_14 lkX12_65 stX12_isIn mwX12_isIn (Nat.le_of_ble_eq_true rfl) (c_isInK il_0 il_99) ?_
  refine r_if_ne (μ := mX12_person) (pc := 17) (tgt := 23) dX12_person_17 (by decide) (fun h_17 => ?_) (fun h_17 => absurd h_17 (b2i_ne h2))
  refine r_aload_n (μ := mX12_person) (pc := 23) dX12_person_23 rfl rfl rfl ?_
  refine r_getR (μ := mX12_person) (pc := 24) dX12_person_24 fpX12_7 rfl rfl (by decide) (hM _ _ rfl) ?_
  refine r_iconst (μ := mX12_person) (pc := 27) (v := 2) dX12_person_27 ic_2 ?_
  refine r_iaload (μ := mX12_person) (pc := 28) (j := 2) dX12_person_28 rfl rfl (by decide) (by decide) ?_
  refine r_bipush (μ := mX12_person) (pc := 29) (v := 6) dX12_person_29 bp_6 ?_
  refine r_icmp_ne (μ := mX12_person) (pc := 31) (tgt := 37) dX12_person_31 (by decide) (fun h_31 => absurd hp h_31) (fun h_31 => ?_)
  refine r_ldc (μ := mX12_person) (pc := 34) dX12_person_34 ctX12_79 ?_
  exact r_iret (μ := mX12_person) (pc := 36) dX12_person_36 rfl rfl (PI_i rfl)

theorem c_person {d : Nat} {mi : MI} {mr : MR} (hM : MB mr) {n : Nat} (hn : mi 1 0 = nI n) (hn10 : n ≤ 10) {x w : Int32} (h1 : inR x n = true) (h2 : inB w 0 99 = true) {q : Nat} (hp : mi 1 2 = nI q) (hp6 : q < 6) : CP (d + 2) mX12_person [.ref 0, .int x, .int w] shM mi mr 0 0 (PX shM mr (fun r mi2 => r = nI q ∧ mi2 = addP mi q x w)) := by
  refine CP.of (L := [_, _, _, _]) (by decide) rfl rfl (Nat.le_of_ble_eq_true rfl) ?_
  refine r_aload_n (μ := mX12_person) (pc := 0) dX12_person_0 rfl rfl rfl ?_
  refine r_iload_n (μ := mX12_person) (pc := 1) dX12_person_1 rfl rfl ?_
  refine vP1 (μ := mX12_person) (pc := 2) (c0 := 12) (q0 := (RX12, TX12, 34)) (μ2 := mX12_isLedge) dX12_person_2 rfl rfl lkX12_84 imX12_isLedge seX12_X12_isLedge_X12_isLedge mwX12_isLedge (Nat.le_of_ble_eq_true rfl) (c_isLedge hM hn (by omega)) ?_
  refine r_if_eq (μ := mX12_person) (pc := 5) (tgt := 20) dX12_person_5 (by decide) (fun h_5 => absurd h_5 (b2i_ne h1)) (fun h_5 => ?_)
  refine r_iload_n (μ := mX12_person) (pc := 8) dX12_person_8 rfl rfl ?_
  refine r_i2l (μ := mX12_person) (pc := 9) dX12_person_9 ?_
  refine r_lconst (μ := mX12_person) (pc := 10) (v := 0) dX12_person_10 lc_0 ?_
  refine r_ldc2 (μ := mX12_person) (pc := 11) dX12_person_11 clX12_74 ?_
  refine sP3 (μ := mX12_person) (pc := 14) (μ2 := mX12_isIn) dX12_person_14 lkX12_65 stX12_isIn mwX12_isIn (Nat.le_of_ble_eq_true rfl) (c_isInK il_0 il_99) ?_
  refine r_if_ne (μ := mX12_person) (pc := 17) (tgt := 23) dX12_person_17 (by decide) (fun h_17 => ?_) (fun h_17 => absurd h_17 (b2i_ne h2))
  refine r_aload_n (μ := mX12_person) (pc := 23) dX12_person_23 rfl rfl rfl ?_
  refine r_getR (μ := mX12_person) (pc := 24) dX12_person_24 fpX12_7 rfl rfl (by decide) (hM _ _ rfl) ?_
  refine r_iconst (μ := mX12_person) (pc := 27) (v := 2) dX12_person_27 ic_2 ?_
  refine r_iaload (μ := mX12_person) (pc := 28) (j := 2) dX12_person_28 rfl rfl (by decide) (by decide) ?_
  refine r_bipush (μ := mX12_person) (pc := 29) (v := 6) dX12_person_29 bp_6 ?_
  refine r_icmp_ne (μ := mX12_person) (pc := 31) (tgt := 37) dX12_person_31 (by decide) (fun h_31 => ?_) (fun h_31 => absurd h_31 (by rw [hp]; exact nI_neC (b := 6) rfl (by omega) (by omega) (by decide)))
  refine r_bipush (μ := mX12_person) (pc := 37) (v := 68) dX12_person_37 bp_68 ?_
  refine r_iconst (μ := mX12_person) (pc := 39) (v := 2) dX12_person_39 ic_2 ?_
  refine r_aload_n (μ := mX12_person) (pc := 40) dX12_person_40 rfl rfl rfl ?_
  refine r_getR (μ := mX12_person) (pc := 41) dX12_person_41 fpX12_7 rfl rfl (by decide) (hM _ _ rfl) ?_
  refine r_iconst (μ := mX12_person) (pc := 44) (v := 2) dX12_person_44 ic_2 ?_
  refine r_iaload (μ := mX12_person) (pc := 45) (j := 2) dX12_person_45 rfl rfl (by decide) (by decide) ?_
  rw [hp]
  refine r_imul (μ := mX12_person) (pc := 46) dX12_person_46 ?_
  refine r_iadd (μ := mX12_person) (pc := 47) dX12_person_47 ?_
  rw [show (68 : Int32) + 2 * nI q = nI (68 + 2 * q) from by simp only [← nI_add, ← pk_mul]; rfl]
  refine s_istore_n (μ := mX12_person) (pc := 48) (L2 := [_, _, _, _]) dX12_person_48 rfl (Nat.le_of_ble_eq_true rfl) (Nat.le_of_ble_eq_true rfl) rfl rfl ?_
  refine r_aload_n (μ := mX12_person) (pc := 49) dX12_person_49 rfl rfl rfl ?_
  refine r_getR (μ := mX12_person) (pc := 50) dX12_person_50 fpX12_7 rfl rfl (by decide) (hM _ _ rfl) ?_
  refine r_iload_n (μ := mX12_person) (pc := 53) dX12_person_53 rfl rfl ?_
  refine r_iload_n (μ := mX12_person) (pc := 54) dX12_person_54 rfl rfl ?_
  refine r_iastore (μ := mX12_person) (pc := 55) (j := 68 + 2 * q) dX12_person_55 rfl rfl (by omega) (by decide) ?_
  refine r_aload_n (μ := mX12_person) (pc := 56) dX12_person_56 rfl rfl rfl ?_
  refine r_getR (μ := mX12_person) (pc := 57) dX12_person_57 fpX12_7 rfl rfl (by decide) (hM _ _ rfl) ?_
  refine r_iload_n (μ := mX12_person) (pc := 60) dX12_person_60 rfl rfl ?_
  refine r_iconst (μ := mX12_person) (pc := 61) (v := 1) dX12_person_61 ic_1 ?_
  refine r_iadd (μ := mX12_person) (pc := 62) dX12_person_62 ?_
  refine r_iload_n (μ := mX12_person) (pc := 63) dX12_person_63 rfl rfl ?_
  refine r_iastore (μ := mX12_person) (pc := 64) (j := 68 + 2 * q + 1) dX12_person_64 rfl (by simp only [← nI_add, ← pk_mul]; rfl) (by omega) (by decide) ?_
  refine r_aload_n (μ := mX12_person) (pc := 65) dX12_person_65 rfl rfl rfl ?_
  refine r_getR (μ := mX12_person) (pc := 66) dX12_person_66 fpX12_7 rfl rfl (by decide) (hM _ _ rfl) ?_
  refine r_iconst (μ := mX12_person) (pc := 69) (v := 2) dX12_person_69 ic_2 ?_
  refine r_dup2 (μ := mX12_person) (pc := 70) dX12_person_70 rfl rfl ?_
  refine r_iaload (μ := mX12_person) (pc := 71) (j := 2) dX12_person_71 rfl rfl (by decide) (by decide) ?_
  rw [up_ne (by omega), up_ne (by omega), hp]
  refine r_iconst (μ := mX12_person) (pc := 72) (v := 1) dX12_person_72 ic_1 ?_
  refine r_iadd (μ := mX12_person) (pc := 73) dX12_person_73 ?_
  refine r_iastore (μ := mX12_person) (pc := 74) (j := 2) dX12_person_74 rfl rfl (by decide) (by decide) ?_
  refine r_aload_n (μ := mX12_person) (pc := 75) dX12_person_75 rfl rfl rfl ?_
  refine r_getR (μ := mX12_person) (pc := 76) dX12_person_76 fpX12_7 rfl rfl (by decide) (hM _ _ rfl) ?_
  refine r_iconst (μ := mX12_person) (pc := 79) (v := 2) dX12_person_79 ic_2 ?_
  refine r_iaload (μ := mX12_person) (pc := 80) (j := 2) dX12_person_80 rfl rfl (by decide) (by decide) ?_
  refine r_iconst (μ := mX12_person) (pc := 81) (v := 1) dX12_person_81 ic_1 ?_
  refine r_isub (μ := mX12_person) (pc := 82) dX12_person_82 ?_
  exact r_iret (μ := mX12_person) (pc := 83) dX12_person_83 rfl rfl (PX_i ⟨by rw [up_eq, ← nI_succ]; exact nI_pred q, by unfold addP; rw [nI_succ]⟩)

theorem c_personTold_bad {d : Nat} {mi : MI} {mr : MR} (hM : MB mr) {q : Nat} (hp : mi 1 2 = nI q) (hp6 : q ≤ 6) {x w : Int32} (hb : ¬ (inR x q = true ∧ inB w 0 1 = true)) : CP (d + 2) mX12_personTold [.ref 0, .int x, .int w] shM mi mr 0 0 (PI (BADc) shM mi mr) := by
  refine CP.of (L := [_, _, _]) (by decide) rfl rfl (Nat.le_of_ble_eq_true rfl) ?_
  refine r_aload_n (μ := mX12_personTold) (pc := 0) dX12_personTold_0 rfl rfl rfl ?_
  refine r_iload_n (μ := mX12_personTold) (pc := 1) dX12_personTold_1 rfl rfl ?_
  refine vP1 (μ := mX12_personTold) (pc := 2) (c0 := 12) (q0 := (RX12, TX12, 34)) (μ2 := mX12_isPerson) dX12_personTold_2 rfl rfl lkX12_156 imX12_isPerson seX12_X12_isPerson_X12_isPerson mwX12_isPerson (Nat.le_of_ble_eq_true rfl) (c_isPerson hM hp (by omega)) ?_
  refine r_if_eq (μ := mX12_personTold) (pc := 5) (tgt := 34) dX12_personTold_5 (by decide) (fun h_5 => ?_) (fun h_5 => ?_)
  · have h_5 := b2i_0 h_5
    refine r_ldc (μ := mX12_personTold) (pc := 34) dX12_personTold_34 ctX12_78 ?_
    exact r_iret (μ := mX12_personTold) (pc := 36) dX12_personTold_36 rfl rfl (PI_i rfl)
  · have h_5 := b2i_1 h_5
    refine r_iload_n (μ := mX12_personTold) (pc := 8) dX12_personTold_8 rfl rfl ?_
    refine r_i2l (μ := mX12_personTold) (pc := 9) dX12_personTold_9 ?_
    refine r_lconst (μ := mX12_personTold) (pc := 10) (v := 0) dX12_personTold_10 lc_0 ?_
    refine r_lconst (μ := mX12_personTold) (pc := 11) (v := 1) dX12_personTold_11 lc_1 ?_
    refine sP3 (μ := mX12_personTold) (pc := 12) (μ2 := mX12_isIn) dX12_personTold_12 lkX12_65 stX12_isIn mwX12_isIn (Nat.le_of_ble_eq_true rfl) (c_isInK il_0 il_1) ?_
    refine r_if_eq (μ := mX12_personTold) (pc := 15) (tgt := 34) dX12_personTold_15 (by decide) (fun h_15 => ?_) (fun h_15 => ?_)
    · have h_15 := b2i_0 h_15
      refine r_ldc (μ := mX12_personTold) (pc := 34) dX12_personTold_34 ctX12_78 ?_
      exact r_iret (μ := mX12_personTold) (pc := 36) dX12_personTold_36 rfl rfl (PI_i rfl)
    · have h_15 := b2i_1 h_15
      exact absurd ⟨h_5, h_15⟩ hb

theorem c_personTold {d : Nat} {mi : MI} {mr : MR} (hM : MB mr) {q : Nat} (hp : mi 1 2 = nI q) (hp6 : q ≤ 6) {l w : Nat} (hl : l < q) (hw : w < 2) : CP (d + 2) mX12_personTold [.ref 0, .int (nI l), .int (nI w)] shM mi mr 0 0 (PI (mi 1 (68 + 2 * l + w)) shM mi mr) := by
  refine CP.of (L := [_, _, _]) (by decide) rfl rfl (Nat.le_of_ble_eq_true rfl) ?_
  refine r_aload_n (μ := mX12_personTold) (pc := 0) dX12_personTold_0 rfl rfl rfl ?_
  refine r_iload_n (μ := mX12_personTold) (pc := 1) dX12_personTold_1 rfl rfl ?_
  refine vP1 (μ := mX12_personTold) (pc := 2) (c0 := 12) (q0 := (RX12, TX12, 34)) (μ2 := mX12_isPerson) dX12_personTold_2 rfl rfl lkX12_156 imX12_isPerson seX12_X12_isPerson_X12_isPerson mwX12_isPerson (Nat.le_of_ble_eq_true rfl) (c_isPerson hM hp (by omega)) ?_
  refine r_if_eq (μ := mX12_personTold) (pc := 5) (tgt := 34) dX12_personTold_5 (by decide) (fun h_5 => absurd h_5 (b2i_ne (inR_nI hl (by omega)))) (fun h_5 => ?_)
  refine r_iload_n (μ := mX12_personTold) (pc := 8) dX12_personTold_8 rfl rfl ?_
  refine r_i2l (μ := mX12_personTold) (pc := 9) dX12_personTold_9 ?_
  refine r_lconst (μ := mX12_personTold) (pc := 10) (v := 0) dX12_personTold_10 lc_0 ?_
  refine r_lconst (μ := mX12_personTold) (pc := 11) (v := 1) dX12_personTold_11 lc_1 ?_
  refine sP3 (μ := mX12_personTold) (pc := 12) (μ2 := mX12_isIn) dX12_personTold_12 lkX12_65 stX12_isIn mwX12_isIn (Nat.le_of_ble_eq_true rfl) (c_isInK il_0 il_1) ?_
  refine r_if_eq (μ := mX12_personTold) (pc := 15) (tgt := 34) dX12_personTold_15 (by decide) (fun h_15 => absurd h_15 (b2i_ne (inB1 hw))) (fun h_15 => ?_)
  refine r_aload_n (μ := mX12_personTold) (pc := 18) dX12_personTold_18 rfl rfl rfl ?_
  refine r_getR (μ := mX12_personTold) (pc := 19) dX12_personTold_19 fpX12_7 rfl rfl (by decide) (hM _ _ rfl) ?_
  refine r_bipush (μ := mX12_personTold) (pc := 22) (v := 68) dX12_personTold_22 bp_68 ?_
  refine r_iconst (μ := mX12_personTold) (pc := 24) (v := 2) dX12_personTold_24 ic_2 ?_
  refine r_iload_n (μ := mX12_personTold) (pc := 25) dX12_personTold_25 rfl rfl ?_
  refine r_imul (μ := mX12_personTold) (pc := 26) dX12_personTold_26 ?_
  refine r_iadd (μ := mX12_personTold) (pc := 27) dX12_personTold_27 ?_
  refine r_iload_n (μ := mX12_personTold) (pc := 28) dX12_personTold_28 rfl rfl ?_
  refine r_iadd (μ := mX12_personTold) (pc := 29) dX12_personTold_29 ?_
  refine r_iaload (μ := mX12_personTold) (pc := 30) (j := ((68 + (2 * l)) + w)) dX12_personTold_30 rfl (by simp only [← nI_add, ← pk_mul]; rfl) (by omega) (by decide) ?_
  refine r_goto (μ := mX12_personTold) (pc := 31) (tgt := 36) dX12_personTold_31 (by decide) ?_
  exact r_iret (μ := mX12_personTold) (pc := 36) dX12_personTold_36 rfl rfl (PI_i rfl)

theorem c_thieves_bad {d : Nat} {mi : MI} {mr : MR} (hM : MB mr) {x : Int32} (hb : ¬ inB x 0 100 = true) : CP (d + 2) mX12_thieves [.ref 0, .int x] shM mi mr 0 0 (PI (BADc) shM mi mr) := by
  refine CP.of (L := [_, _]) (by decide) rfl rfl (Nat.le_of_ble_eq_true rfl) ?_
  refine r_iload_n (μ := mX12_thieves) (pc := 0) dX12_thieves_0 rfl rfl ?_
  refine r_i2l (μ := mX12_thieves) (pc := 1) dX12_thieves_1 ?_
  refine r_lconst (μ := mX12_thieves) (pc := 2) (v := 0) dX12_thieves_2 lc_0 ?_
  refine r_ldc2 (μ := mX12_thieves) (pc := 3) dX12_thieves_3 clX12_169 ?_
  refine sP3 (μ := mX12_thieves) (pc := 6) (μ2 := mX12_isIn) dX12_thieves_6 lkX12_65 stX12_isIn mwX12_isIn (Nat.le_of_ble_eq_true rfl) (c_isInK il_0 il_100) ?_
  refine r_if_eq (μ := mX12_thieves) (pc := 9) (tgt := 21) dX12_thieves_9 (by decide) (fun h_9 => ?_) (fun h_9 => ?_)
  · have h_9 := b2i_0 h_9
    refine r_ldc (μ := mX12_thieves) (pc := 21) dX12_thieves_21 ctX12_78 ?_
    exact r_iret (μ := mX12_thieves) (pc := 23) dX12_thieves_23 rfl rfl (PI_i rfl)
  · have h_9 := b2i_1 h_9
    exact absurd h_9 hb

theorem c_thieves {d : Nat} {mi : MI} {mr : MR} (hM : MB mr) {x : Int32} (hb : inB x 0 100 = true) : CP (d + 2) mX12_thieves [.ref 0, .int x] shM mi mr 0 0 (PX shM mr (fun r mi2 => r = mi 1 5 ∧ mi2 = upI mi 1 5 x)) := by
  refine CP.of (L := [_, _]) (by decide) rfl rfl (Nat.le_of_ble_eq_true rfl) ?_
  refine r_iload_n (μ := mX12_thieves) (pc := 0) dX12_thieves_0 rfl rfl ?_
  refine r_i2l (μ := mX12_thieves) (pc := 1) dX12_thieves_1 ?_
  refine r_lconst (μ := mX12_thieves) (pc := 2) (v := 0) dX12_thieves_2 lc_0 ?_
  refine r_ldc2 (μ := mX12_thieves) (pc := 3) dX12_thieves_3 clX12_169 ?_
  refine sP3 (μ := mX12_thieves) (pc := 6) (μ2 := mX12_isIn) dX12_thieves_6 lkX12_65 stX12_isIn mwX12_isIn (Nat.le_of_ble_eq_true rfl) (c_isInK il_0 il_100) ?_
  refine r_if_eq (μ := mX12_thieves) (pc := 9) (tgt := 21) dX12_thieves_9 (by decide) (fun h_9 => absurd h_9 (b2i_ne hb)) (fun h_9 => ?_)
  refine r_aload_n (μ := mX12_thieves) (pc := 12) dX12_thieves_12 rfl rfl rfl ?_
  refine r_iconst (μ := mX12_thieves) (pc := 13) (v := 5) dX12_thieves_13 ic_5 ?_
  refine r_iload_n (μ := mX12_thieves) (pc := 14) dX12_thieves_14 rfl rfl ?_
  refine vX2 (μ := mX12_thieves) (pc := 15) (c0 := 12) (q0 := (RX12, TX12, 34)) (μ2 := mX12_becomes) dX12_thieves_15 rfl rfl lkX12_97 imX12_becomes seX12_X12_becomes_X12_becomes mwX12_becomes (Nat.le_of_ble_eq_true rfl) (c_becomesE hM (k := 5) rfl (by omega)) (fun r_15 mi_15 h_15 => ?_)
  refine r_goto (μ := mX12_thieves) (pc := 18) (tgt := 23) dX12_thieves_18 (by decide) ?_
  exact r_iret (μ := mX12_thieves) (pc := 23) dX12_thieves_23 rfl rfl (PX_i h_15)

theorem c_ledgeTold_bad {d : Nat} {mi : MI} {mr : MR} (hM : MB mr) {n : Nat} (hn : mi 1 0 = nI n) (hn10 : n ≤ 10) {x w : Int32} (hb : ¬ (inR x n = true ∧ inB w 0 3 = true)) : CP (d + 2) mX12_ledgeTold [.ref 0, .int x, .int w] shM mi mr 0 0 (PI (BADc) shM mi mr) := by
  refine CP.of (L := [_, _, _, _, _]) (by decide) rfl rfl (Nat.le_of_ble_eq_true rfl) ?_
  refine r_aload_n (μ := mX12_ledgeTold) (pc := 0) dX12_ledgeTold_0 rfl rfl rfl ?_
  refine r_iload_n (μ := mX12_ledgeTold) (pc := 1) dX12_ledgeTold_1 rfl rfl ?_
  refine vP1 (μ := mX12_ledgeTold) (pc := 2) (c0 := 12) (q0 := (RX12, TX12, 34)) (μ2 := mX12_isLedge) dX12_ledgeTold_2 rfl rfl lkX12_84 imX12_isLedge seX12_X12_isLedge_X12_isLedge mwX12_isLedge (Nat.le_of_ble_eq_true rfl) (c_isLedge hM hn (by omega)) ?_
  refine r_if_eq (μ := mX12_ledgeTold) (pc := 5) (tgt := 20) dX12_ledgeTold_5 (by decide) (fun h_5 => ?_) (fun h_5 => ?_)
  · have h_5 := b2i_0 h_5
    refine r_ldc (μ := mX12_ledgeTold) (pc := 20) dX12_ledgeTold_20 ctX12_78 ?_
    exact r_iret (μ := mX12_ledgeTold) (pc := 22) dX12_ledgeTold_22 rfl rfl (PI_i rfl)
  · have h_5 := b2i_1 h_5
    refine r_iload_n (μ := mX12_ledgeTold) (pc := 8) dX12_ledgeTold_8 rfl rfl ?_
    refine r_i2l (μ := mX12_ledgeTold) (pc := 9) dX12_ledgeTold_9 ?_
    refine r_lconst (μ := mX12_ledgeTold) (pc := 10) (v := 0) dX12_ledgeTold_10 lc_0 ?_
    refine r_ldc2 (μ := mX12_ledgeTold) (pc := 11) dX12_ledgeTold_11 clX12_88 ?_
    refine sP3 (μ := mX12_ledgeTold) (pc := 14) (μ2 := mX12_isIn) dX12_ledgeTold_14 lkX12_65 stX12_isIn mwX12_isIn (Nat.le_of_ble_eq_true rfl) (c_isInK il_0 il_3) ?_
    refine r_if_ne (μ := mX12_ledgeTold) (pc := 17) (tgt := 23) dX12_ledgeTold_17 (by decide) (fun h_17 => ?_) (fun h_17 => ?_)
    · have h_17 := b2i_1 h_17
      exact absurd ⟨h_5, h_17⟩ hb
    · have h_17 := b2i_0 h_17
      refine r_ldc (μ := mX12_ledgeTold) (pc := 20) dX12_ledgeTold_20 ctX12_78 ?_
      exact r_iret (μ := mX12_ledgeTold) (pc := 22) dX12_ledgeTold_22 rfl rfl (PI_i rfl)

theorem lp_ledgeTold {d : Nat} {mi : MI} {mr : MR} {Q : QT} (hM : MB mr) {m b : Nat} {w : Value} (hm : mi 1 1 = nI m) (hm8 : m ≤ 8) (kk : WP (d + 2) mX12_ledgeTold 67 [.ref 0, .int (nI b), w, .int (bitsB (fun l => decide (fot (mi 1) l = nI b)) m), .int (nI m)] [] shM mi mr 0 0 Q) (hw : catL w = true) : ∀ (k : Nat) (i : Nat), i + k = m → WP (d + 2) mX12_ledgeTold 28 [.ref 0, .int (nI b), w, .int (bitsB (fun l => decide (fot (mi 1) l = nI b)) i), .int (nI i)] [] shM mi mr 0 0 Q := by
  intro k
  induction k with
  | zero =>
    intro i hk
    refine r_iload (μ := mX12_ledgeTold) (pc := 28) dX12_ledgeTold_28 rfl ?_
    refine r_aload_n (μ := mX12_ledgeTold) (pc := 30) dX12_ledgeTold_30 rfl rfl rfl ?_
    refine r_getR (μ := mX12_ledgeTold) (pc := 31) dX12_ledgeTold_31 fpX12_7 rfl rfl (by decide) (hM _ _ rfl) ?_
    refine r_iconst (μ := mX12_ledgeTold) (pc := 34) (v := 1) dX12_ledgeTold_34 ic_1 ?_
    refine r_iaload (μ := mX12_ledgeTold) (pc := 35) (j := 1) dX12_ledgeTold_35 rfl rfl (by decide) (by decide) ?_
    refine r_icmp_ge (μ := mX12_ledgeTold) (pc := 36) (tgt := 67) dX12_ledgeTold_36 (by decide) (fun h_36 => ?_) (fun h_36 => absurd (by rw [hm]; exact nI_le (by omega) (by omega)) h_36)
    obtain rfl : i = m := by omega
    exact kk
  | succ k ih =>
    intro i hk
    refine r_iload (μ := mX12_ledgeTold) (pc := 28) dX12_ledgeTold_28 rfl ?_
    refine r_aload_n (μ := mX12_ledgeTold) (pc := 30) dX12_ledgeTold_30 rfl rfl rfl ?_
    refine r_getR (μ := mX12_ledgeTold) (pc := 31) dX12_ledgeTold_31 fpX12_7 rfl rfl (by decide) (hM _ _ rfl) ?_
    refine r_iconst (μ := mX12_ledgeTold) (pc := 34) (v := 1) dX12_ledgeTold_34 ic_1 ?_
    refine r_iaload (μ := mX12_ledgeTold) (pc := 35) (j := 1) dX12_ledgeTold_35 rfl rfl (by decide) (by decide) ?_
    refine r_icmp_ge (μ := mX12_ledgeTold) (pc := 36) (tgt := 67) dX12_ledgeTold_36 (by decide) (fun h_36 => absurd h_36 (by rw [hm]; exact nI_ge (by omega) (by omega))) (fun h_36 => ?_)
    refine r_iload_n (μ := mX12_ledgeTold) (pc := 39) dX12_ledgeTold_39 rfl rfl ?_
    refine r_aload_n (μ := mX12_ledgeTold) (pc := 40) dX12_ledgeTold_40 rfl rfl rfl ?_
    refine r_iload (μ := mX12_ledgeTold) (pc := 41) dX12_ledgeTold_41 rfl ?_
    refine r_iconst (μ := mX12_ledgeTold) (pc := 43) (v := 2) dX12_ledgeTold_43 ic_2 ?_
    refine vP2 (μ := mX12_ledgeTold) (pc := 44) (c0 := 12) (q0 := (RX12, TX12, 34)) (μ2 := mX12_of) dX12_ledgeTold_44 rfl rfl lkX12_90 imX12_of seX12_X12_of_X12_of mwX12_of (Nat.le_of_ble_eq_true rfl) (c_of hM (by omega) (by decide)) ?_
    refine r_iload_n (μ := mX12_ledgeTold) (pc := 47) dX12_ledgeTold_47 rfl rfl ?_
    refine r_icmp_ne (μ := mX12_ledgeTold) (pc := 48) (tgt := 58) dX12_ledgeTold_48 (by decide) (fun h_48 => ?_) (fun h_48 => ?_)
    · refine r_iconst (μ := mX12_ledgeTold) (pc := 58) (v := 0) dX12_ledgeTold_58 ic_0 ?_
      refine r_ior (μ := mX12_ledgeTold) (pc := 59) dX12_ledgeTold_59 ?_
      refine s_istore_n (μ := mX12_ledgeTold) (pc := 60) (L2 := [_, _, _, _, _]) dX12_ledgeTold_60 rfl (Nat.le_of_ble_eq_true rfl) (Nat.le_of_ble_eq_true rfl) (by simp only [List.all_cons, List.all_nil, catL_i, catL_r, hw, Bool.and_self]) rfl ?_
      refine s_iinc (μ := mX12_ledgeTold) (pc := 61) (c := 1) (L2 := [_, _, _, _, _]) dX12_ledgeTold_61 rfl ic_1 (Nat.le_of_ble_eq_true rfl) (by simp only [List.all_cons, List.all_nil, catL_i, catL_r, hw, Bool.and_self]) rfl ?_
      refine r_goto (μ := mX12_ledgeTold) (pc := 64) (tgt := 28) dX12_ledgeTold_64 (by decide) ?_
      exact WP.L (by simp [bitsB, fot, nI_succ, h_48]) (ih (i + 1) (by omega))
    · refine r_iconst (μ := mX12_ledgeTold) (pc := 51) (v := 1) dX12_ledgeTold_51 ic_1 ?_
      refine r_iload (μ := mX12_ledgeTold) (pc := 52) dX12_ledgeTold_52 rfl ?_
      refine r_ishl (μ := mX12_ledgeTold) (pc := 54) dX12_ledgeTold_54 ?_
      refine r_goto (μ := mX12_ledgeTold) (pc := 55) (tgt := 59) dX12_ledgeTold_55 (by decide) ?_
      refine r_ior (μ := mX12_ledgeTold) (pc := 59) dX12_ledgeTold_59 ?_
      refine s_istore_n (μ := mX12_ledgeTold) (pc := 60) (L2 := [_, _, _, _, _]) dX12_ledgeTold_60 rfl (Nat.le_of_ble_eq_true rfl) (Nat.le_of_ble_eq_true rfl) (by simp only [List.all_cons, List.all_nil, catL_i, catL_r, hw, Bool.and_self]) rfl ?_
      refine s_iinc (μ := mX12_ledgeTold) (pc := 61) (c := 1) (L2 := [_, _, _, _, _]) dX12_ledgeTold_61 rfl ic_1 (Nat.le_of_ble_eq_true rfl) (by simp only [List.all_cons, List.all_nil, catL_i, catL_r, hw, Bool.and_self]) rfl ?_
      refine r_goto (μ := mX12_ledgeTold) (pc := 64) (tgt := 28) dX12_ledgeTold_64 (by decide) ?_
      exact WP.L (by simp [bitsB, fot, nI_succ, h_48]) (ih (i + 1) (by omega))

theorem c_ledgeTold {d : Nat} {mi : MI} {mr : MR} (hM : MB mr) {n : Nat} (hn : mi 1 0 = nI n) (hn10 : n ≤ 10) {m : Nat} (hm : mi 1 1 = nI m) (hm8 : m ≤ 8) {q : Nat} (hp : mi 1 2 = nI q) (hp6 : q ≤ 6) {b w : Nat} (hb : b < n) (hw : w < 4) : CP (d + 2) mX12_ledgeTold [.ref 0, .int (nI b), .int (nI w)] shM mi mr 0 0 (PI (if w < 2 then mi 1 (8 + 2 * b + w) else if w = 2 then nI (cntB (fun p => decide (spt (mi 1) p = nI b)) q) else (bitsB (fun l => decide (fot (mi 1) l = nI b)) m)) shM mi mr) := by
  refine CP.of (L := [_, _, _, _, _]) (by decide) rfl rfl (Nat.le_of_ble_eq_true rfl) ?_
  refine r_aload_n (μ := mX12_ledgeTold) (pc := 0) dX12_ledgeTold_0 rfl rfl rfl ?_
  refine r_iload_n (μ := mX12_ledgeTold) (pc := 1) dX12_ledgeTold_1 rfl rfl ?_
  refine vP1 (μ := mX12_ledgeTold) (pc := 2) (c0 := 12) (q0 := (RX12, TX12, 34)) (μ2 := mX12_isLedge) dX12_ledgeTold_2 rfl rfl lkX12_84 imX12_isLedge seX12_X12_isLedge_X12_isLedge mwX12_isLedge (Nat.le_of_ble_eq_true rfl) (c_isLedge hM hn (by omega)) ?_
  refine r_if_eq (μ := mX12_ledgeTold) (pc := 5) (tgt := 20) dX12_ledgeTold_5 (by decide) (fun h_5 => absurd h_5 (b2i_ne (inR_nI hb (by omega)))) (fun h_5 => ?_)
  refine r_iload_n (μ := mX12_ledgeTold) (pc := 8) dX12_ledgeTold_8 rfl rfl ?_
  refine r_i2l (μ := mX12_ledgeTold) (pc := 9) dX12_ledgeTold_9 ?_
  refine r_lconst (μ := mX12_ledgeTold) (pc := 10) (v := 0) dX12_ledgeTold_10 lc_0 ?_
  refine r_ldc2 (μ := mX12_ledgeTold) (pc := 11) dX12_ledgeTold_11 clX12_88 ?_
  refine sP3 (μ := mX12_ledgeTold) (pc := 14) (μ2 := mX12_isIn) dX12_ledgeTold_14 lkX12_65 stX12_isIn mwX12_isIn (Nat.le_of_ble_eq_true rfl) (c_isInK il_0 il_3) ?_
  refine r_if_ne (μ := mX12_ledgeTold) (pc := 17) (tgt := 23) dX12_ledgeTold_17 (by decide) (fun h_17 => ?_) (fun h_17 => absurd h_17 (b2i_ne (inB3 hw)))
  refine r_iconst (μ := mX12_ledgeTold) (pc := 23) (v := 0) dX12_ledgeTold_23 ic_0 ?_
  refine s_istore_n (μ := mX12_ledgeTold) (pc := 24) (L2 := [_, _, _, _, _]) dX12_ledgeTold_24 rfl (Nat.le_of_ble_eq_true rfl) (Nat.le_of_ble_eq_true rfl) rfl rfl ?_
  refine r_iconst (μ := mX12_ledgeTold) (pc := 25) (v := 0) dX12_ledgeTold_25 ic_0 ?_
  refine s_istore (μ := mX12_ledgeTold) (pc := 26) (L2 := [_, _, _, _, _]) dX12_ledgeTold_26 (Nat.le_of_ble_eq_true rfl) (Nat.le_of_ble_eq_true rfl) rfl rfl ?_
  refine lp_ledgeTold hM hm hm8 ?_ rfl m 0 (Nat.zero_add _)
  refine r_iload_n (μ := mX12_ledgeTold) (pc := 67) dX12_ledgeTold_67 rfl rfl ?_
  refine r_iconst (μ := mX12_ledgeTold) (pc := 68) (v := 2) dX12_ledgeTold_68 ic_2 ?_
  refine r_icmp_ge (μ := mX12_ledgeTold) (pc := 69) (tgt := 88) dX12_ledgeTold_69 (by decide) (fun h_69 => ?_) (fun h_69 => ?_)
  · have h9 : 2 ≤ w := (nI_leI (a := 2) (b := w) (by decide) (by omega)).mp h_69
    refine r_iload_n (μ := mX12_ledgeTold) (pc := 88) dX12_ledgeTold_88 rfl rfl ?_
    refine r_iconst (μ := mX12_ledgeTold) (pc := 89) (v := 2) dX12_ledgeTold_89 ic_2 ?_
    refine r_icmp_ne (μ := mX12_ledgeTold) (pc := 90) (tgt := 101) dX12_ledgeTold_90 (by decide) (fun h_90 => ?_) (fun h_90 => ?_)
    · have h8 : w ≠ 2 := fun q => h_90 (by rw [q]; rfl)
      refine r_iload_n (μ := mX12_ledgeTold) (pc := 101) dX12_ledgeTold_101 rfl rfl ?_
      exact r_iret (μ := mX12_ledgeTold) (pc := 102) dX12_ledgeTold_102 rfl rfl (PI_i (by first | (rw [if_pos h9]) | (rw [if_neg (by omega), if_pos h8]) | (rw [if_neg (by omega), if_neg h8])))
    · have h8 : w = 2 := (nI_eq (a := w) (b := 2) (by omega) (by decide)).mp h_90
      refine r_aload_n (μ := mX12_ledgeTold) (pc := 93) dX12_ledgeTold_93 rfl rfl rfl ?_
      refine r_iload_n (μ := mX12_ledgeTold) (pc := 94) dX12_ledgeTold_94 rfl rfl ?_
      refine vP1 (μ := mX12_ledgeTold) (pc := 95) (c0 := 12) (q0 := (RX12, TX12, 34)) (μ2 := mX12_peopleOn) dX12_ledgeTold_95 rfl rfl lkX12_94 imX12_peopleOn seX12_X12_peopleOn_X12_peopleOn mwX12_peopleOn (Nat.le_of_ble_eq_true rfl) (c_peopleOn hM hp hp6) ?_
      refine r_goto (μ := mX12_ledgeTold) (pc := 98) (tgt := 102) dX12_ledgeTold_98 (by decide) ?_
      exact r_iret (μ := mX12_ledgeTold) (pc := 102) dX12_ledgeTold_102 rfl rfl (PI_i (by first | (rw [if_pos h9]) | (rw [if_neg (by omega), if_pos h8]) | (rw [if_neg (by omega), if_neg h8])))
  · have h9 : w < 2 := Nat.not_le.mp (fun q => h_69 ((nI_leI (a := 2) (b := w) (by decide) (by omega)).mpr q))
    refine r_aload_n (μ := mX12_ledgeTold) (pc := 72) dX12_ledgeTold_72 rfl rfl rfl ?_
    refine r_getR (μ := mX12_ledgeTold) (pc := 73) dX12_ledgeTold_73 fpX12_7 rfl rfl (by decide) (hM _ _ rfl) ?_
    refine r_bipush (μ := mX12_ledgeTold) (pc := 76) (v := 8) dX12_ledgeTold_76 bp_8 ?_
    refine r_iconst (μ := mX12_ledgeTold) (pc := 78) (v := 2) dX12_ledgeTold_78 ic_2 ?_
    refine r_iload_n (μ := mX12_ledgeTold) (pc := 79) dX12_ledgeTold_79 rfl rfl ?_
    refine r_imul (μ := mX12_ledgeTold) (pc := 80) dX12_ledgeTold_80 ?_
    refine r_iadd (μ := mX12_ledgeTold) (pc := 81) dX12_ledgeTold_81 ?_
    refine r_iload_n (μ := mX12_ledgeTold) (pc := 82) dX12_ledgeTold_82 rfl rfl ?_
    refine r_iadd (μ := mX12_ledgeTold) (pc := 83) dX12_ledgeTold_83 ?_
    refine r_iaload (μ := mX12_ledgeTold) (pc := 84) (j := ((8 + (2 * b)) + w)) dX12_ledgeTold_84 rfl (by simp only [← nI_add, ← pk_mul]; rfl) (by omega) (by decide) ?_
    refine r_goto (μ := mX12_ledgeTold) (pc := 85) (tgt := 102) dX12_ledgeTold_85 (by decide) ?_
    exact r_iret (μ := mX12_ledgeTold) (pc := 102) dX12_ledgeTold_102 rfl rfl (PI_i (by first | (rw [if_pos h9]) | (rw [if_neg (by omega), if_pos h8]) | (rw [if_neg (by omega), if_neg h8])))

