theorem inR_B (v : Int32) (k : Nat) : b2i (inR v (k + 1)) = b2i (inB v 0 k) := by
  congr 1
  unfold inR inB
  exact decide_eq_decide.mpr (by omega)

theorem k_ledge_bad {d : Nat} {sh : List Sh} {mi : MI} {mr : MR} (hF : SHC sh) (hB : CB mr) {s : Rw} {n m p q : Nat} (hR : RT sh mi mr 8 s n m p q) (hI : Inv s n m p q) {h y : Int32} (hb : ¬ (inB h 0 99 = true ∧ inB y 0 29 = true)) : CP (d + 1) mX11_ledge [.ref 0, .int h, .int y] sh mi mr 0 0 (PI (BADc) sh mi mr) := by
  have hn10 := hI.n10; have hm8 := hI.m8; have hp6 := hI.p6; have hq14 := hI.q14
  have hT := TB.of hF hB (Or.inl rfl)
  refine CP.of (L := [_, _, _]) (by decide) rfl rfl (Nat.le_of_ble_eq_true rfl) ?_
  refine r_iload_n (μ := mX11_ledge) (pc := 0) dX11_ledge_0 rfl rfl ?_
  refine r_bipush (μ := mX11_ledge) (pc := 1) (v := 100) dX11_ledge_1 bp_100 ?_
  refine sP2 (μ := mX11_ledge) (pc := 3) (μ2 := mX11_within) dX11_ledge_3 lkX11_93 stX11_within mwX11_within (Nat.le_of_ble_eq_true rfl) (k_within (n := 100) rfl (by decide)) ?_
  rw [inR_B _ 99]
  refine r_if_eq (μ := mX11_ledge) (pc := 6) (tgt := 18) dX11_ledge_6 (by decide) (fun h_6 => ?_) (fun h_6 => ?_)
  · have h_6 := b2i_0 h_6
    refine r_ldc (μ := mX11_ledge) (pc := 18) dX11_ledge_18 ctX11_97 ?_
    exact r_iret (μ := mX11_ledge) (pc := 20) dX11_ledge_20 rfl rfl (PI_i rfl)
  · have h_6 := b2i_1 h_6
    refine r_iload_n (μ := mX11_ledge) (pc := 9) dX11_ledge_9 rfl rfl ?_
    refine r_bipush (μ := mX11_ledge) (pc := 10) (v := 30) dX11_ledge_10 bp_30 ?_
    refine sP2 (μ := mX11_ledge) (pc := 12) (μ2 := mX11_within) dX11_ledge_12 lkX11_93 stX11_within mwX11_within (Nat.le_of_ble_eq_true rfl) (k_within (n := 30) rfl (by decide)) ?_
    rw [inR_B _ 29]
    refine r_if_ne (μ := mX11_ledge) (pc := 15) (tgt := 21) dX11_ledge_15 (by decide) (fun h_15 => ?_) (fun h_15 => ?_)
    · have h_15 := b2i_1 h_15
      exact absurd ⟨h_6, h_15⟩ hb
    · have h_15 := b2i_0 h_15
      refine r_ldc (μ := mX11_ledge) (pc := 18) dX11_ledge_18 ctX11_97 ?_
      exact r_iret (μ := mX11_ledge) (pc := 20) dX11_ledge_20 rfl rfl (PI_i rfl)

theorem k_ledge_full {d : Nat} {sh : List Sh} {mi : MI} {mr : MR} (hF : SHC sh) (hB : CB mr) {s : Rw} {n m p q : Nat} (hR : RT sh mi mr 8 s n m p q) (hI : Inv s n m p q) {h y : Int32} (h1 : inB h 0 99 = true) (h2 : inB y 0 29 = true) (hn : n = 10) : CP (d + 1) mX11_ledge [.ref 0, .int h, .int y] sh mi mr 0 0 (PI (FULLc) sh mi mr) := by
  have hn10 := hI.n10; have hm8 := hI.m8; have hp6 := hI.p6; have hq14 := hI.q14
  have hT := TB.of hF hB (Or.inl rfl)
  refine CP.of (L := [_, _, _]) (by decide) rfl rfl (Nat.le_of_ble_eq_true rfl) ?_
  refine r_iload_n (μ := mX11_ledge) (pc := 0) dX11_ledge_0 rfl rfl ?_
  refine r_bipush (μ := mX11_ledge) (pc := 1) (v := 100) dX11_ledge_1 bp_100 ?_
  refine sP2 (μ := mX11_ledge) (pc := 3) (μ2 := mX11_within) dX11_ledge_3 lkX11_93 stX11_within mwX11_within (Nat.le_of_ble_eq_true rfl) (k_within (n := 100) rfl (by decide)) ?_
  rw [inR_B _ 99]
  refine r_if_eq (μ := mX11_ledge) (pc := 6) (tgt := 18) dX11_ledge_6 (by decide) (fun h_6 => absurd h_6 (b2i_ne h1)) (fun h_6 => ?_)
  refine r_iload_n (μ := mX11_ledge) (pc := 9) dX11_ledge_9 rfl rfl ?_
  refine r_bipush (μ := mX11_ledge) (pc := 10) (v := 30) dX11_ledge_10 bp_30 ?_
  refine sP2 (μ := mX11_ledge) (pc := 12) (μ2 := mX11_within) dX11_ledge_12 lkX11_93 stX11_within mwX11_within (Nat.le_of_ble_eq_true rfl) (k_within (n := 30) rfl (by decide)) ?_
  rw [inR_B _ 29]
  refine r_if_ne (μ := mX11_ledge) (pc := 15) (tgt := 21) dX11_ledge_15 (by decide) (fun h_15 => ?_) (fun h_15 => absurd h_15 (b2i_ne h2))
  refine r_aload_n (μ := mX11_ledge) (pc := 21) dX11_ledge_21 rfl rfl rfl ?_
  refine r_getR (μ := mX11_ledge) (pc := 22) dX11_ledge_22 fpX11_36 rfl (hF _ _ rfl) (by decide) (hB _ _ _ rfl) ?_
  refine r_getI (μ := mX11_ledge) (pc := 25) dX11_ledge_25 fpX11_98 rfl (hF _ _ rfl) (by decide) ?_
  refine r_bipush (μ := mX11_ledge) (pc := 28) (v := 10) dX11_ledge_28 bp_10 ?_
  refine r_icmp_lt (μ := mX11_ledge) (pc := 30) (tgt := 36) dX11_ledge_30 (by decide) (fun h_30 => absurd h_30 (by rw [hR.en, hn]; decide)) (fun h_30 => ?_)
  refine r_ldc (μ := mX11_ledge) (pc := 33) dX11_ledge_33 ctX11_101 ?_
  exact r_iret (μ := mX11_ledge) (pc := 35) dX11_ledge_35 rfl rfl (PI_i rfl)

theorem k_ledge {d : Nat} {sh : List Sh} {mi : MI} {mr : MR} (hF : SHC sh) (hB : CB mr) {s : Rw} {n m p q : Nat} (hR : RT sh mi mr 8 s n m p q) (hI : Inv s n m p q) {h y : Int32} (h1 : inB h 0 99 = true) (h2 : inB y 0 29 = true) (hn : n < 10) : CP (d + 1) mX11_ledge [.ref 0, .int h, .int y] sh mi mr 0 0 (PX sh mr (fun r mi2 => r = nI n ∧ mi2 = upI (upI (upI mi 9 n h) 10 n y) 8 1 (nI (n + 1)))) := by
  have hn10 := hI.n10; have hm8 := hI.m8; have hp6 := hI.p6; have hq14 := hI.q14
  have hT := TB.of hF hB (Or.inl rfl)
  refine CP.of (L := [_, _, _]) (by decide) rfl rfl (Nat.le_of_ble_eq_true rfl) ?_
  refine r_iload_n (μ := mX11_ledge) (pc := 0) dX11_ledge_0 rfl rfl ?_
  refine r_bipush (μ := mX11_ledge) (pc := 1) (v := 100) dX11_ledge_1 bp_100 ?_
  refine sP2 (μ := mX11_ledge) (pc := 3) (μ2 := mX11_within) dX11_ledge_3 lkX11_93 stX11_within mwX11_within (Nat.le_of_ble_eq_true rfl) (k_within (n := 100) rfl (by decide)) ?_
  rw [inR_B _ 99]
  refine r_if_eq (μ := mX11_ledge) (pc := 6) (tgt := 18) dX11_ledge_6 (by decide) (fun h_6 => absurd h_6 (b2i_ne h1)) (fun h_6 => ?_)
  refine r_iload_n (μ := mX11_ledge) (pc := 9) dX11_ledge_9 rfl rfl ?_
  refine r_bipush (μ := mX11_ledge) (pc := 10) (v := 30) dX11_ledge_10 bp_30 ?_
  refine sP2 (μ := mX11_ledge) (pc := 12) (μ2 := mX11_within) dX11_ledge_12 lkX11_93 stX11_within mwX11_within (Nat.le_of_ble_eq_true rfl) (k_within (n := 30) rfl (by decide)) ?_
  rw [inR_B _ 29]
  refine r_if_ne (μ := mX11_ledge) (pc := 15) (tgt := 21) dX11_ledge_15 (by decide) (fun h_15 => ?_) (fun h_15 => absurd h_15 (b2i_ne h2))
  refine r_aload_n (μ := mX11_ledge) (pc := 21) dX11_ledge_21 rfl rfl rfl ?_
  refine r_getR (μ := mX11_ledge) (pc := 22) dX11_ledge_22 fpX11_36 rfl (hF _ _ rfl) (by decide) (hB _ _ _ rfl) ?_
  refine r_getI (μ := mX11_ledge) (pc := 25) dX11_ledge_25 fpX11_98 rfl (hF _ _ rfl) (by decide) ?_
  refine r_bipush (μ := mX11_ledge) (pc := 28) (v := 10) dX11_ledge_28 bp_10 ?_
  refine r_icmp_lt (μ := mX11_ledge) (pc := 30) (tgt := 36) dX11_ledge_30 (by decide) (fun h_30 => ?_) (fun h_30 => absurd (by rw [hR.en]; exact nI_lt (b := 10) hn (by decide)) h_30)
  refine r_aload_n (μ := mX11_ledge) (pc := 36) dX11_ledge_36 rfl rfl rfl ?_
  refine r_getR (μ := mX11_ledge) (pc := 37) dX11_ledge_37 fpX11_36 rfl (hF _ _ rfl) (by decide) (hB _ _ _ rfl) ?_
  refine r_iload_n (μ := mX11_ledge) (pc := 40) dX11_ledge_40 rfl rfl ?_
  refine r_iload_n (μ := mX11_ledge) (pc := 41) dX11_ledge_41 rfl rfl ?_
  refine vX2 (μ := mX11_ledge) (pc := 42) (c0 := 9) (q0 := (RX9, TX9, 20)) (μ2 := mX9_addLedge) dX11_ledge_42 (hF _ _ rfl) rfl lkX11_102 imX9_addLedge seX9_X9_addLedge_X9_addLedge mwX9_addLedge (Nat.le_of_ble_eq_true rfl) (k_addLedge hT hR.en hn) (fun r_42 mi_42 h_42 => ?_)
  obtain ⟨rfl, rfl⟩ := h_42
  exact r_iret (μ := mX11_ledge) (pc := 45) dX11_ledge_45 rfl rfl (PX_i ⟨rfl, rfl⟩)

theorem k_ledgeTold_bad {d : Nat} {sh : List Sh} {mi : MI} {mr : MR} (hF : SHC sh) (hB : CB mr) {s : Rw} {n m p q : Nat} (hR : RT sh mi mr 8 s n m p q) (hI : Inv s n m p q) {x w : Int32} (hb : ¬ (inR x n = true ∧ inB w 0 3 = true)) : CP (d + 1) mX11_ledgeTold [.ref 0, .int x, .int w] sh mi mr 0 0 (PI (BADc) sh mi mr) := by
  have hn10 := hI.n10; have hm8 := hI.m8; have hp6 := hI.p6; have hq14 := hI.q14
  have hT := TB.of hF hB (Or.inl rfl)
  refine CP.of (L := [_, _, _]) (by decide) rfl rfl (Nat.le_of_ble_eq_true rfl) ?_
  refine r_iload_n (μ := mX11_ledgeTold) (pc := 0) dX11_ledgeTold_0 rfl rfl ?_
  refine r_aload_n (μ := mX11_ledgeTold) (pc := 1) dX11_ledgeTold_1 rfl rfl rfl ?_
  refine r_getR (μ := mX11_ledgeTold) (pc := 2) dX11_ledgeTold_2 fpX11_36 rfl (hF _ _ rfl) (by decide) (hB _ _ _ rfl) ?_
  refine r_getI (μ := mX11_ledgeTold) (pc := 5) dX11_ledgeTold_5 fpX11_98 rfl (hF _ _ rfl) (by decide) ?_
  refine sP2 (μ := mX11_ledgeTold) (pc := 8) (μ2 := mX11_within) dX11_ledgeTold_8 lkX11_93 stX11_within mwX11_within (Nat.le_of_ble_eq_true rfl) (k_within hR.en (by omega)) ?_
  refine r_if_ne (μ := mX11_ledgeTold) (pc := 11) (tgt := 17) dX11_ledgeTold_11 (by decide) (fun h_11 => ?_) (fun h_11 => ?_)
  · have h_11 := b2i_1 h_11
    have hw3 : ¬ inB w 0 3 = true := fun z => hb ⟨h_11, z⟩
    refine r_iload_n (μ := mX11_ledgeTold) (pc := 17) dX11_ledgeTold_17 rfl rfl ?_
    refine r_tabOut (μ := mX11_ledgeTold) (pc := 18) (tgt := 86) dX11_ledgeTold_18 (by unfold inB at hw3; simp only [decide_eq_true_eq] at hw3; omega) (by decide) ?_
    refine r_ldc (μ := mX11_ledgeTold) (pc := 86) dX11_ledgeTold_86 ctX11_97 ?_
    exact r_iret (μ := mX11_ledgeTold) (pc := 88) dX11_ledgeTold_88 rfl rfl (PI_i rfl)
  · have h_11 := b2i_0 h_11
    refine r_ldc (μ := mX11_ledgeTold) (pc := 14) dX11_ledgeTold_14 ctX11_97 ?_
    exact r_iret (μ := mX11_ledgeTold) (pc := 16) dX11_ledgeTold_16 rfl rfl (PI_i rfl)

theorem k_ledgeTold {d : Nat} {sh : List Sh} {mi : MI} {mr : MR} (hF : SHC sh) (hB : CB mr) {s : Rw} {n m p q : Nat} (hR : RT sh mi mr 8 s n m p q) (hI : Inv s n m p q) {x w : Nat} (hx : x < n) (hw : w < 4) : CP (d + 1) mX11_ledgeTold [.ref 0, .int (nI x), .int (nI w)] sh mi mr 0 0 (PI ((if w < 2 then s (8 + 2 * x + w) else if w = 2 then nI (cntB (fun p => decide (spt s p = nI x)) p) else (bitsB (fun l => decide (fot s l = nI x)) m))) sh mi mr) := by
  have hn10 := hI.n10; have hm8 := hI.m8; have hp6 := hI.p6; have hq14 := hI.q14
  have hT := TB.of hF hB (Or.inl rfl)
  have hw4 : w = 0 ∨ w = 1 ∨ w = 2 ∨ w = 3 := by omega
  refine CP.of (L := [_, _, _]) (by decide) rfl rfl (Nat.le_of_ble_eq_true rfl) ?_
  refine r_iload_n (μ := mX11_ledgeTold) (pc := 0) dX11_ledgeTold_0 rfl rfl ?_
  refine r_aload_n (μ := mX11_ledgeTold) (pc := 1) dX11_ledgeTold_1 rfl rfl rfl ?_
  refine r_getR (μ := mX11_ledgeTold) (pc := 2) dX11_ledgeTold_2 fpX11_36 rfl (hF _ _ rfl) (by decide) (hB _ _ _ rfl) ?_
  refine r_getI (μ := mX11_ledgeTold) (pc := 5) dX11_ledgeTold_5 fpX11_98 rfl (hF _ _ rfl) (by decide) ?_
  refine sP2 (μ := mX11_ledgeTold) (pc := 8) (μ2 := mX11_within) dX11_ledgeTold_8 lkX11_93 stX11_within mwX11_within (Nat.le_of_ble_eq_true rfl) (k_within hR.en (by omega)) ?_
  refine r_if_ne (μ := mX11_ledgeTold) (pc := 11) (tgt := 17) dX11_ledgeTold_11 (by decide) (fun h_11 => ?_) (fun h_11 => absurd h_11 (b2i_ne (inR_nI hx (by omega))))
  refine r_iload_n (μ := mX11_ledgeTold) (pc := 17) dX11_ledgeTold_17 rfl rfl ?_
  rcases hw4 with rfl | rfl | rfl | rfl
  · refine r_tabIn (μ := mX11_ledgeTold) (pc := 18) (tgt := 48) dX11_ledgeTold_18 (by decide) (by decide) rfl (by decide) ?_
    refine r_aload_n (μ := mX11_ledgeTold) (pc := 48) dX11_ledgeTold_48 rfl rfl rfl ?_
    refine r_getR (μ := mX11_ledgeTold) (pc := 49) dX11_ledgeTold_49 fpX11_36 rfl (hF _ _ rfl) (by decide) (hB _ _ _ rfl) ?_
    refine r_getR (μ := mX11_ledgeTold) (pc := 52) dX11_ledgeTold_52 fpX11_106 rfl (hF _ _ rfl) (by decide) (hB _ _ _ rfl) ?_
    refine r_iload_n (μ := mX11_ledgeTold) (pc := 55) dX11_ledgeTold_55 rfl rfl ?_
    refine r_iaload (μ := mX11_ledgeTold) (pc := 56) (j := x) dX11_ledgeTold_56 (hF _ _ rfl) rfl (by omega) (by decide) ?_
    rw [hR.hg hx]
    exact r_iret (μ := mX11_ledgeTold) (pc := 57) dX11_ledgeTold_57 rfl rfl (PI_i rfl)
  · refine r_tabIn (μ := mX11_ledgeTold) (pc := 18) (tgt := 58) dX11_ledgeTold_18 (by decide) (by decide) rfl (by decide) ?_
    refine r_aload_n (μ := mX11_ledgeTold) (pc := 58) dX11_ledgeTold_58 rfl rfl rfl ?_
    refine r_getR (μ := mX11_ledgeTold) (pc := 59) dX11_ledgeTold_59 fpX11_36 rfl (hF _ _ rfl) (by decide) (hB _ _ _ rfl) ?_
    refine r_getR (μ := mX11_ledgeTold) (pc := 62) dX11_ledgeTold_62 fpX11_109 rfl (hF _ _ rfl) (by decide) (hB _ _ _ rfl) ?_
    refine r_iload_n (μ := mX11_ledgeTold) (pc := 65) dX11_ledgeTold_65 rfl rfl ?_
    refine r_iaload (μ := mX11_ledgeTold) (pc := 66) (j := x) dX11_ledgeTold_66 (hF _ _ rfl) rfl (by omega) (by decide) ?_
    rw [hR.pl hx]
    exact r_iret (μ := mX11_ledgeTold) (pc := 67) dX11_ledgeTold_67 rfl rfl (PI_i rfl)
  · refine r_tabIn (μ := mX11_ledgeTold) (pc := 18) (tgt := 68) dX11_ledgeTold_18 (by decide) (by decide) rfl (by decide) ?_
    refine r_aload_n (μ := mX11_ledgeTold) (pc := 68) dX11_ledgeTold_68 rfl rfl rfl ?_
    refine r_getR (μ := mX11_ledgeTold) (pc := 69) dX11_ledgeTold_69 fpX11_36 rfl (hF _ _ rfl) (by decide) (hB _ _ _ rfl) ?_
    refine r_iload_n (μ := mX11_ledgeTold) (pc := 72) dX11_ledgeTold_72 rfl rfl ?_
    refine vP1 (μ := mX11_ledgeTold) (pc := 73) (c0 := 9) (q0 := (RX9, TX9, 20)) (μ2 := mX9_peopleOn) dX11_ledgeTold_73 (hF _ _ rfl) rfl lkX11_112 imX9_peopleOn seX9_X9_peopleOn_X9_peopleOn mwX9_peopleOn (Nat.le_of_ble_eq_true rfl) (k_peopleOn hT (by decide) hR hI) ?_
    exact r_iret (μ := mX11_ledgeTold) (pc := 76) dX11_ledgeTold_76 rfl rfl (PI_i rfl)
  · refine r_tabIn (μ := mX11_ledgeTold) (pc := 18) (tgt := 77) dX11_ledgeTold_18 (by decide) (by decide) rfl (by decide) ?_
    refine r_aload_n (μ := mX11_ledgeTold) (pc := 77) dX11_ledgeTold_77 rfl rfl rfl ?_
    refine r_getR (μ := mX11_ledgeTold) (pc := 78) dX11_ledgeTold_78 fpX11_36 rfl (hF _ _ rfl) (by decide) (hB _ _ _ rfl) ?_
    refine r_iload_n (μ := mX11_ledgeTold) (pc := 81) dX11_ledgeTold_81 rfl rfl ?_
    refine vP1 (μ := mX11_ledgeTold) (pc := 82) (c0 := 9) (q0 := (RX9, TX9, 20)) (μ2 := mX9_laddersFrom) dX11_ledgeTold_82 (hF _ _ rfl) rfl lkX11_116 imX9_laddersFrom seX9_X9_laddersFrom_X9_laddersFrom mwX9_laddersFrom (Nat.le_of_ble_eq_true rfl) (k_laddersFrom hT (by decide) hR hI) ?_
    exact r_iret (μ := mX11_ledgeTold) (pc := 85) dX11_ledgeTold_85 rfl rfl (PI_i rfl)

theorem k_change_bad {d : Nat} {sh : List Sh} {mi : MI} {mr : MR} (hF : SHC sh) (hB : CB mr) {s : Rw} {n m p q : Nat} (hR : RT sh mi mr 8 s n m p q) (hI : Inv s n m p q) {x w v : Int32} (hb : inR x n = true → inB w 0 1 = true → (w = 0 → inB v 0 99 = true → False) ∧ (¬ w = 0 → inB v 0 29 = true → False)) : CP (d + 1) mX11_change [.ref 0, .int x, .int w, .int v] sh mi mr 0 0 (PI (BADc) sh mi mr) := by
  have hn10 := hI.n10; have hm8 := hI.m8; have hp6 := hI.p6; have hq14 := hI.q14
  have hT := TB.of hF hB (Or.inl rfl)
  refine CP.of (L := [_, _, _, _]) (by decide) rfl rfl (Nat.le_of_ble_eq_true rfl) ?_
  refine r_iload_n (μ := mX11_change) (pc := 0) dX11_change_0 rfl rfl ?_
  refine r_aload_n (μ := mX11_change) (pc := 1) dX11_change_1 rfl rfl rfl ?_
  refine r_getR (μ := mX11_change) (pc := 2) dX11_change_2 fpX11_36 rfl (hF _ _ rfl) (by decide) (hB _ _ _ rfl) ?_
  refine r_getI (μ := mX11_change) (pc := 5) dX11_change_5 fpX11_98 rfl (hF _ _ rfl) (by decide) ?_
  refine sP2 (μ := mX11_change) (pc := 8) (μ2 := mX11_within) dX11_change_8 lkX11_93 stX11_within mwX11_within (Nat.le_of_ble_eq_true rfl) (k_within hR.en (by omega)) ?_
  refine r_if_eq (μ := mX11_change) (pc := 11) (tgt := 22) dX11_change_11 (by decide) (fun h_11 => ?_) (fun h_11 => ?_)
  · have h_11 := b2i_0 h_11
    refine r_ldc (μ := mX11_change) (pc := 22) dX11_change_22 ctX11_97 ?_
    exact r_iret (μ := mX11_change) (pc := 24) dX11_change_24 rfl rfl (PI_i rfl)
  · have h_11 := b2i_1 h_11
    refine r_iload_n (μ := mX11_change) (pc := 14) dX11_change_14 rfl rfl ?_
    refine r_iconst (μ := mX11_change) (pc := 15) (v := 2) dX11_change_15 ic_2 ?_
    refine sP2 (μ := mX11_change) (pc := 16) (μ2 := mX11_within) dX11_change_16 lkX11_93 stX11_within mwX11_within (Nat.le_of_ble_eq_true rfl) (k_within (n := 2) rfl (by decide)) ?_
    rw [inR_B _ 1]
    refine r_if_ne (μ := mX11_change) (pc := 19) (tgt := 25) dX11_change_19 (by decide) (fun h_19 => ?_) (fun h_19 => ?_)
    · have h_19 := b2i_1 h_19
      refine r_iload_n (μ := mX11_change) (pc := 25) dX11_change_25 rfl rfl ?_
      refine r_iload_n (μ := mX11_change) (pc := 26) dX11_change_26 rfl rfl ?_
      refine r_if_ne (μ := mX11_change) (pc := 27) (tgt := 35) dX11_change_27 (by decide) (fun h_27 => ?_) (fun h_27 => ?_)
      · refine r_bipush (μ := mX11_change) (pc := 35) (v := 30) dX11_change_35 bp_30 ?_
        refine sP2 (μ := mX11_change) (pc := 37) (μ2 := mX11_within) dX11_change_37 lkX11_93 stX11_within mwX11_within (Nat.le_of_ble_eq_true rfl) (k_within (n := 30) rfl (by decide)) ?_
        rw [inR_B _ 29]
        refine r_if_ne (μ := mX11_change) (pc := 40) (tgt := 46) dX11_change_40 (by decide) (fun h_40 => ?_) (fun h_40 => ?_)
        · have h_40 := b2i_1 h_40
          exact ((hb h_11 h_19).2 h_27 h_40).elim
        · have h_40 := b2i_0 h_40
          refine r_ldc (μ := mX11_change) (pc := 43) dX11_change_43 ctX11_97 ?_
          exact r_iret (μ := mX11_change) (pc := 45) dX11_change_45 rfl rfl (PI_i rfl)
      · refine r_bipush (μ := mX11_change) (pc := 30) (v := 100) dX11_change_30 bp_100 ?_
        refine r_goto (μ := mX11_change) (pc := 32) (tgt := 37) dX11_change_32 (by decide) ?_
        refine sP2 (μ := mX11_change) (pc := 37) (μ2 := mX11_within) dX11_change_37 lkX11_93 stX11_within mwX11_within (Nat.le_of_ble_eq_true rfl) (k_within (n := 100) rfl (by decide)) ?_
        rw [inR_B _ 99]
        refine r_if_ne (μ := mX11_change) (pc := 40) (tgt := 46) dX11_change_40 (by decide) (fun h_40 => ?_) (fun h_40 => ?_)
        · have h_40 := b2i_1 h_40
          exact ((hb h_11 h_19).1 h_27 h_40).elim
        · have h_40 := b2i_0 h_40
          refine r_ldc (μ := mX11_change) (pc := 43) dX11_change_43 ctX11_97 ?_
          exact r_iret (μ := mX11_change) (pc := 45) dX11_change_45 rfl rfl (PI_i rfl)
    · have h_19 := b2i_0 h_19
      refine r_ldc (μ := mX11_change) (pc := 22) dX11_change_22 ctX11_97 ?_
      exact r_iret (μ := mX11_change) (pc := 24) dX11_change_24 rfl rfl (PI_i rfl)

theorem k_change0 {d : Nat} {sh : List Sh} {mi : MI} {mr : MR} (hF : SHC sh) (hB : CB mr) {s : Rw} {n m p q : Nat} (hR : RT sh mi mr 8 s n m p q) (hI : Inv s n m p q) {x : Nat} {v : Int32} (hx : x < n) (hv : inB v 0 99 = true) : CP (d + 1) mX11_change [.ref 0, .int (nI x), .int 0, .int v] sh mi mr 0 0 (PX sh mr (fun r mi2 => r = s (8 + 2 * x + 0) ∧ mi2 = upI mi 9 x v)) := by
  have hn10 := hI.n10; have hm8 := hI.m8; have hp6 := hI.p6; have hq14 := hI.q14
  have hT := TB.of hF hB (Or.inl rfl)
  refine CP.of (L := [_, _, _, _]) (by decide) rfl rfl (Nat.le_of_ble_eq_true rfl) ?_
  refine r_iload_n (μ := mX11_change) (pc := 0) dX11_change_0 rfl rfl ?_
  refine r_aload_n (μ := mX11_change) (pc := 1) dX11_change_1 rfl rfl rfl ?_
  refine r_getR (μ := mX11_change) (pc := 2) dX11_change_2 fpX11_36 rfl (hF _ _ rfl) (by decide) (hB _ _ _ rfl) ?_
  refine r_getI (μ := mX11_change) (pc := 5) dX11_change_5 fpX11_98 rfl (hF _ _ rfl) (by decide) ?_
  refine sP2 (μ := mX11_change) (pc := 8) (μ2 := mX11_within) dX11_change_8 lkX11_93 stX11_within mwX11_within (Nat.le_of_ble_eq_true rfl) (k_within hR.en (by omega)) ?_
  refine r_if_eq (μ := mX11_change) (pc := 11) (tgt := 22) dX11_change_11 (by decide) (fun h_11 => absurd h_11 (b2i_ne (inR_nI hx (by omega)))) (fun h_11 => ?_)
  refine r_iload_n (μ := mX11_change) (pc := 14) dX11_change_14 rfl rfl ?_
  refine r_iconst (μ := mX11_change) (pc := 15) (v := 2) dX11_change_15 ic_2 ?_
  refine sP2 (μ := mX11_change) (pc := 16) (μ2 := mX11_within) dX11_change_16 lkX11_93 stX11_within mwX11_within (Nat.le_of_ble_eq_true rfl) (k_within (n := 2) rfl (by decide)) ?_
  rw [inR_B _ 1]
  refine r_if_ne (μ := mX11_change) (pc := 19) (tgt := 25) dX11_change_19 (by decide) (fun h_19 => ?_) (fun h_19 => absurd h_19 (by decide))
  refine r_iload_n (μ := mX11_change) (pc := 25) dX11_change_25 rfl rfl ?_
  refine r_iload_n (μ := mX11_change) (pc := 26) dX11_change_26 rfl rfl ?_
  refine r_if_ne (μ := mX11_change) (pc := 27) (tgt := 35) dX11_change_27 (by decide) (fun h_27 => absurd rfl h_27) (fun h_27 => ?_)
  refine r_bipush (μ := mX11_change) (pc := 30) (v := 100) dX11_change_30 bp_100 ?_
  refine r_goto (μ := mX11_change) (pc := 32) (tgt := 37) dX11_change_32 (by decide) ?_
  refine sP2 (μ := mX11_change) (pc := 37) (μ2 := mX11_within) dX11_change_37 lkX11_93 stX11_within mwX11_within (Nat.le_of_ble_eq_true rfl) (k_within (n := 100) rfl (by decide)) ?_
  rw [inR_B _ 99]
  refine r_if_ne (μ := mX11_change) (pc := 40) (tgt := 46) dX11_change_40 (by decide) (fun h_40 => ?_) (fun h_40 => absurd h_40 (b2i_ne hv))
  refine r_iload_n (μ := mX11_change) (pc := 46) dX11_change_46 rfl rfl ?_
  refine r_if_ne (μ := mX11_change) (pc := 47) (tgt := 60) dX11_change_47 (by decide) (fun h_47 => absurd rfl h_47) (fun h_47 => ?_)
  refine r_aload_n (μ := mX11_change) (pc := 50) dX11_change_50 rfl rfl rfl ?_
  refine r_getR (μ := mX11_change) (pc := 51) dX11_change_51 fpX11_36 rfl (hF _ _ rfl) (by decide) (hB _ _ _ rfl) ?_
  refine r_getR (μ := mX11_change) (pc := 54) dX11_change_54 fpX11_106 rfl (hF _ _ rfl) (by decide) (hB _ _ _ rfl) ?_
  refine r_goto (μ := mX11_change) (pc := 57) (tgt := 67) dX11_change_57 (by decide) ?_
  refine r_iload_n (μ := mX11_change) (pc := 67) dX11_change_67 rfl rfl ?_
  refine r_iload_n (μ := mX11_change) (pc := 68) dX11_change_68 rfl rfl ?_
  refine sX3 (μ := mX11_change) (pc := 69) (μ2 := mX11_exchange) dX11_change_69 lkX11_119 stX11_exchange mwX11_exchange (Nat.le_of_ble_eq_true rfl) (k_exchange (hF _ _ rfl) rfl (show x < 10 by omega) (by decide)) (fun r_69 mi_69 h_69 => ?_)
  obtain ⟨rfl, rfl⟩ := h_69
  exact r_iret (μ := mX11_change) (pc := 72) dX11_change_72 rfl rfl (PX_i ⟨hR.hg hx, rfl⟩)

theorem k_change1 {d : Nat} {sh : List Sh} {mi : MI} {mr : MR} (hF : SHC sh) (hB : CB mr) {s : Rw} {n m p q : Nat} (hR : RT sh mi mr 8 s n m p q) (hI : Inv s n m p q) {x : Nat} {v : Int32} (hx : x < n) (hv : inB v 0 29 = true) : CP (d + 1) mX11_change [.ref 0, .int (nI x), .int 1, .int v] sh mi mr 0 0 (PX sh mr (fun r mi2 => r = s (8 + 2 * x + 1) ∧ mi2 = upI mi 10 x v)) := by
  have hn10 := hI.n10; have hm8 := hI.m8; have hp6 := hI.p6; have hq14 := hI.q14
  have hT := TB.of hF hB (Or.inl rfl)
  refine CP.of (L := [_, _, _, _]) (by decide) rfl rfl (Nat.le_of_ble_eq_true rfl) ?_
  refine r_iload_n (μ := mX11_change) (pc := 0) dX11_change_0 rfl rfl ?_
  refine r_aload_n (μ := mX11_change) (pc := 1) dX11_change_1 rfl rfl rfl ?_
  refine r_getR (μ := mX11_change) (pc := 2) dX11_change_2 fpX11_36 rfl (hF _ _ rfl) (by decide) (hB _ _ _ rfl) ?_
  refine r_getI (μ := mX11_change) (pc := 5) dX11_change_5 fpX11_98 rfl (hF _ _ rfl) (by decide) ?_
  refine sP2 (μ := mX11_change) (pc := 8) (μ2 := mX11_within) dX11_change_8 lkX11_93 stX11_within mwX11_within (Nat.le_of_ble_eq_true rfl) (k_within hR.en (by omega)) ?_
  refine r_if_eq (μ := mX11_change) (pc := 11) (tgt := 22) dX11_change_11 (by decide) (fun h_11 => absurd h_11 (b2i_ne (inR_nI hx (by omega)))) (fun h_11 => ?_)
  refine r_iload_n (μ := mX11_change) (pc := 14) dX11_change_14 rfl rfl ?_
  refine r_iconst (μ := mX11_change) (pc := 15) (v := 2) dX11_change_15 ic_2 ?_
  refine sP2 (μ := mX11_change) (pc := 16) (μ2 := mX11_within) dX11_change_16 lkX11_93 stX11_within mwX11_within (Nat.le_of_ble_eq_true rfl) (k_within (n := 2) rfl (by decide)) ?_
  rw [inR_B _ 1]
  refine r_if_ne (μ := mX11_change) (pc := 19) (tgt := 25) dX11_change_19 (by decide) (fun h_19 => ?_) (fun h_19 => absurd h_19 (by decide))
  refine r_iload_n (μ := mX11_change) (pc := 25) dX11_change_25 rfl rfl ?_
  refine r_iload_n (μ := mX11_change) (pc := 26) dX11_change_26 rfl rfl ?_
  refine r_if_ne (μ := mX11_change) (pc := 27) (tgt := 35) dX11_change_27 (by decide) (fun h_27 => ?_) (fun h_27 => absurd h_27 (by decide))
  refine r_bipush (μ := mX11_change) (pc := 35) (v := 30) dX11_change_35 bp_30 ?_
  refine sP2 (μ := mX11_change) (pc := 37) (μ2 := mX11_within) dX11_change_37 lkX11_93 stX11_within mwX11_within (Nat.le_of_ble_eq_true rfl) (k_within (n := 30) rfl (by decide)) ?_
  rw [inR_B _ 29]
  refine r_if_ne (μ := mX11_change) (pc := 40) (tgt := 46) dX11_change_40 (by decide) (fun h_40 => ?_) (fun h_40 => absurd h_40 (b2i_ne hv))
  refine r_iload_n (μ := mX11_change) (pc := 46) dX11_change_46 rfl rfl ?_
  refine r_if_ne (μ := mX11_change) (pc := 47) (tgt := 60) dX11_change_47 (by decide) (fun h_47 => ?_) (fun h_47 => absurd h_47 (by decide))
  refine r_aload_n (μ := mX11_change) (pc := 60) dX11_change_60 rfl rfl rfl ?_
  refine r_getR (μ := mX11_change) (pc := 61) dX11_change_61 fpX11_36 rfl (hF _ _ rfl) (by decide) (hB _ _ _ rfl) ?_
  refine r_getR (μ := mX11_change) (pc := 64) dX11_change_64 fpX11_109 rfl (hF _ _ rfl) (by decide) (hB _ _ _ rfl) ?_
  refine r_iload_n (μ := mX11_change) (pc := 67) dX11_change_67 rfl rfl ?_
  refine r_iload_n (μ := mX11_change) (pc := 68) dX11_change_68 rfl rfl ?_
  refine sX3 (μ := mX11_change) (pc := 69) (μ2 := mX11_exchange) dX11_change_69 lkX11_119 stX11_exchange mwX11_exchange (Nat.le_of_ble_eq_true rfl) (k_exchange (hF _ _ rfl) rfl (show x < 10 by omega) (by decide)) (fun r_69 mi_69 h_69 => ?_)
  obtain ⟨rfl, rfl⟩ := h_69
  exact r_iret (μ := mX11_change) (pc := 72) dX11_change_72 rfl rfl (PX_i ⟨hR.pl hx, rfl⟩)

theorem k_seed {d : Nat} {sh : List Sh} {mi : MI} {mr : MR} (hF : SHC sh) (hB : CB mr) {s : Rw} {n m p q : Nat} (hR : RT sh mi mr 8 s n m p q) (hI : Inv s n m p q) {v : Int32} : CP (d) mX11_seed [.ref 0, .int v] sh mi mr 0 0 (PX sh mr (fun r mi2 => r = s 6 ∧ mi2 = upI mi 8 15 v)) := by
  have hn10 := hI.n10; have hm8 := hI.m8; have hp6 := hI.p6; have hq14 := hI.q14
  have hT := TB.of hF hB (Or.inl rfl)
  refine CP.of (L := [_, _, _]) (by decide) rfl rfl (Nat.le_of_ble_eq_true rfl) ?_
  refine r_aload_n (μ := mX11_seed) (pc := 0) dX11_seed_0 rfl rfl rfl ?_
  refine r_getR (μ := mX11_seed) (pc := 1) dX11_seed_1 fpX11_36 rfl (hF _ _ rfl) (by decide) (hB _ _ _ rfl) ?_
  refine r_getI (μ := mX11_seed) (pc := 4) dX11_seed_4 fpX11_132 rfl (hF _ _ rfl) (by decide) ?_
  refine s_istore_n (μ := mX11_seed) (pc := 7) (L2 := [_, _, _]) dX11_seed_7 rfl (Nat.le_of_ble_eq_true rfl) (Nat.le_of_ble_eq_true rfl) rfl rfl ?_
  refine r_aload_n (μ := mX11_seed) (pc := 8) dX11_seed_8 rfl rfl rfl ?_
  refine r_getR (μ := mX11_seed) (pc := 9) dX11_seed_9 fpX11_36 rfl (hF _ _ rfl) (by decide) (hB _ _ _ rfl) ?_
  refine r_iload_n (μ := mX11_seed) (pc := 12) dX11_seed_12 rfl rfl ?_
  refine r_putI (μ := mX11_seed) (pc := 13) dX11_seed_13 fwX11_132 (hF _ _ rfl) (by decide) rfl ?_
  refine r_iload_n (μ := mX11_seed) (pc := 16) dX11_seed_16 rfl rfl ?_
  exact r_iret (μ := mX11_seed) (pc := 17) dX11_seed_17 rfl rfl (PX_i ⟨hR.z, rfl⟩)

theorem k_thieves_bad {d : Nat} {sh : List Sh} {mi : MI} {mr : MR} (hF : SHC sh) (hB : CB mr) {s : Rw} {n m p q : Nat} (hR : RT sh mi mr 8 s n m p q) (hI : Inv s n m p q) {x : Int32} (hb : ¬ inB x 0 100 = true) : CP (d) mX11_thieves [.ref 0, .int x] sh mi mr 0 0 (PI (BADc) sh mi mr) := by
  have hn10 := hI.n10; have hm8 := hI.m8; have hp6 := hI.p6; have hq14 := hI.q14
  have hT := TB.of hF hB (Or.inl rfl)
  refine CP.of (L := [_, _, _]) (by decide) rfl rfl (Nat.le_of_ble_eq_true rfl) ?_
  refine r_iload_n (μ := mX11_thieves) (pc := 0) dX11_thieves_0 rfl rfl ?_
  refine r_if_lt (μ := mX11_thieves) (pc := 1) (tgt := 10) dX11_thieves_1 (by decide) (fun h_1 => ?_) (fun h_1 => ?_)
  · refine r_ldc (μ := mX11_thieves) (pc := 10) dX11_thieves_10 ctX11_97 ?_
    exact r_iret (μ := mX11_thieves) (pc := 12) dX11_thieves_12 rfl rfl (PI_i rfl)
  · refine r_iload_n (μ := mX11_thieves) (pc := 4) dX11_thieves_4 rfl rfl ?_
    refine r_bipush (μ := mX11_thieves) (pc := 5) (v := 100) dX11_thieves_5 bp_100 ?_
    refine r_icmp_le (μ := mX11_thieves) (pc := 7) (tgt := 13) dX11_thieves_7 (by decide) (fun h_7 => ?_) (fun h_7 => ?_)
    · exact absurd (by have h1 := Int32.le_iff_toInt_le.mp h_7; have h2 := mt Int32.lt_iff_toInt_lt.mpr h_1; have e1 : (0 : Int32).toInt = 0 := rfl; have e2 : (100 : Int32).toInt = 100 := rfl; unfold inB; exact decide_eq_true (by omega)) hb
    · refine r_ldc (μ := mX11_thieves) (pc := 10) dX11_thieves_10 ctX11_97 ?_
      exact r_iret (μ := mX11_thieves) (pc := 12) dX11_thieves_12 rfl rfl (PI_i rfl)

theorem k_thieves {d : Nat} {sh : List Sh} {mi : MI} {mr : MR} (hF : SHC sh) (hB : CB mr) {s : Rw} {n m p q : Nat} (hR : RT sh mi mr 8 s n m p q) (hI : Inv s n m p q) {x : Int32} (hb : inB x 0 100 = true) : CP (d) mX11_thieves [.ref 0, .int x] sh mi mr 0 0 (PX sh mr (fun r mi2 => r = s 5 ∧ mi2 = upI mi 8 14 x)) := by
  have hn10 := hI.n10; have hm8 := hI.m8; have hp6 := hI.p6; have hq14 := hI.q14
  have hT := TB.of hF hB (Or.inl rfl)
  have hb2 : 0 ≤ x.toInt ∧ x.toInt ≤ 100 := by unfold inB at hb; simpa using hb
  refine CP.of (L := [_, _, _]) (by decide) rfl rfl (Nat.le_of_ble_eq_true rfl) ?_
  refine r_iload_n (μ := mX11_thieves) (pc := 0) dX11_thieves_0 rfl rfl ?_
  refine r_if_lt (μ := mX11_thieves) (pc := 1) (tgt := 10) dX11_thieves_1 (by decide) (fun h_1 => absurd h_1 (Int32.not_lt.mpr (Int32.le_iff_toInt_le.mpr (show (0 : Int32).toInt ≤ _ from hb2.1)))) (fun h_1 => ?_)
  refine r_iload_n (μ := mX11_thieves) (pc := 4) dX11_thieves_4 rfl rfl ?_
  refine r_bipush (μ := mX11_thieves) (pc := 5) (v := 100) dX11_thieves_5 bp_100 ?_
  refine r_icmp_le (μ := mX11_thieves) (pc := 7) (tgt := 13) dX11_thieves_7 (by decide) (fun h_7 => ?_) (fun h_7 => absurd (Int32.le_iff_toInt_le.mpr (show _ ≤ (100 : Int32).toInt from hb2.2)) h_7)
  refine r_aload_n (μ := mX11_thieves) (pc := 13) dX11_thieves_13 rfl rfl rfl ?_
  refine r_getR (μ := mX11_thieves) (pc := 14) dX11_thieves_14 fpX11_36 rfl (hF _ _ rfl) (by decide) (hB _ _ _ rfl) ?_
  refine r_getI (μ := mX11_thieves) (pc := 17) dX11_thieves_17 fpX11_205 rfl (hF _ _ rfl) (by decide) ?_
  refine s_istore_n (μ := mX11_thieves) (pc := 20) (L2 := [_, _, _]) dX11_thieves_20 rfl (Nat.le_of_ble_eq_true rfl) (Nat.le_of_ble_eq_true rfl) rfl rfl ?_
  refine r_aload_n (μ := mX11_thieves) (pc := 21) dX11_thieves_21 rfl rfl rfl ?_
  refine r_getR (μ := mX11_thieves) (pc := 22) dX11_thieves_22 fpX11_36 rfl (hF _ _ rfl) (by decide) (hB _ _ _ rfl) ?_
  refine r_iload_n (μ := mX11_thieves) (pc := 25) dX11_thieves_25 rfl rfl ?_
  refine r_putI (μ := mX11_thieves) (pc := 26) dX11_thieves_26 fwX11_205 (hF _ _ rfl) (by decide) rfl ?_
  refine r_iload_n (μ := mX11_thieves) (pc := 29) dX11_thieves_29 rfl rfl ?_
  exact r_iret (μ := mX11_thieves) (pc := 30) dX11_thieves_30 rfl rfl (PX_i ⟨hR.th, rfl⟩)

theorem k_ladder_bad {d : Nat} {sh : List Sh} {mi : MI} {mr : MR} (hF : SHC sh) (hB : CB mr) {s : Rw} {n m p q : Nat} (hR : RT sh mi mr 8 s n m p q) (hI : Inv s n m p q) {k g f t : Int32} (hb : ¬ (inB k 0 5 = true ∧ inB g 1 99 = true ∧ inR f n = true ∧ inR t n = true ∧ ¬ f = t)) : CP (d + 1) mX11_ladder [.ref 0, .int k, .int g, .int f, .int t] sh mi mr 0 0 (PI (BADc) sh mi mr) := by
  have hn10 := hI.n10; have hm8 := hI.m8; have hp6 := hI.p6; have hq14 := hI.q14
  have hT := TB.of hF hB (Or.inl rfl)
  refine CP.of (L := [_, _, _, _, _]) (by decide) rfl rfl (Nat.le_of_ble_eq_true rfl) ?_
  refine r_iload_n (μ := mX11_ladder) (pc := 0) dX11_ladder_0 rfl rfl ?_
  refine r_bipush (μ := mX11_ladder) (pc := 1) (v := 6) dX11_ladder_1 bp_6 ?_
  refine sP2 (μ := mX11_ladder) (pc := 3) (μ2 := mX11_within) dX11_ladder_3 lkX11_93 stX11_within mwX11_within (Nat.le_of_ble_eq_true rfl) (k_within (n := 6) rfl (by decide)) ?_
  rw [inR_B _ 5]
  refine r_if_eq (μ := mX11_ladder) (pc := 6) (tgt := 16) dX11_ladder_6 (by decide) (fun h_6 => ?_) (fun h_6 => ?_)
  · have h_6 := b2i_0 h_6
    refine r_ldc (μ := mX11_ladder) (pc := 16) dX11_ladder_16 ctX11_97 ?_
    exact r_iret (μ := mX11_ladder) (pc := 18) dX11_ladder_18 rfl rfl (PI_i rfl)
  · have h_6 := b2i_1 h_6
    refine r_iload_n (μ := mX11_ladder) (pc := 9) dX11_ladder_9 rfl rfl ?_
    refine sP1 (μ := mX11_ladder) (pc := 10) (μ2 := mX11_isLength) dX11_ladder_10 lkX11_135 stX11_isLength mwX11_isLength (Nat.le_of_ble_eq_true rfl) k_isLength ?_
    refine r_if_ne (μ := mX11_ladder) (pc := 13) (tgt := 19) dX11_ladder_13 (by decide) (fun h_13 => ?_) (fun h_13 => ?_)
    · have h_13 := b2i_1 h_13
      refine r_iload_n (μ := mX11_ladder) (pc := 19) dX11_ladder_19 rfl rfl ?_
      refine r_aload_n (μ := mX11_ladder) (pc := 20) dX11_ladder_20 rfl rfl rfl ?_
      refine r_getR (μ := mX11_ladder) (pc := 21) dX11_ladder_21 fpX11_36 rfl (hF _ _ rfl) (by decide) (hB _ _ _ rfl) ?_
      refine r_getI (μ := mX11_ladder) (pc := 24) dX11_ladder_24 fpX11_98 rfl (hF _ _ rfl) (by decide) ?_
      refine sP2 (μ := mX11_ladder) (pc := 27) (μ2 := mX11_within) dX11_ladder_27 lkX11_93 stX11_within mwX11_within (Nat.le_of_ble_eq_true rfl) (k_within hR.en (by omega)) ?_
      refine r_if_eq (μ := mX11_ladder) (pc := 30) (tgt := 54) dX11_ladder_30 (by decide) (fun h_30 => ?_) (fun h_30 => ?_)
      · have h_30 := b2i_0 h_30
        refine r_ldc (μ := mX11_ladder) (pc := 54) dX11_ladder_54 ctX11_97 ?_
        exact r_iret (μ := mX11_ladder) (pc := 56) dX11_ladder_56 rfl rfl (PI_i rfl)
      · have h_30 := b2i_1 h_30
        refine r_iload (μ := mX11_ladder) (pc := 33) dX11_ladder_33 rfl ?_
        refine r_aload_n (μ := mX11_ladder) (pc := 35) dX11_ladder_35 rfl rfl rfl ?_
        refine r_getR (μ := mX11_ladder) (pc := 36) dX11_ladder_36 fpX11_36 rfl (hF _ _ rfl) (by decide) (hB _ _ _ rfl) ?_
        refine r_getI (μ := mX11_ladder) (pc := 39) dX11_ladder_39 fpX11_98 rfl (hF _ _ rfl) (by decide) ?_
        refine sP2 (μ := mX11_ladder) (pc := 42) (μ2 := mX11_within) dX11_ladder_42 lkX11_93 stX11_within mwX11_within (Nat.le_of_ble_eq_true rfl) (k_within hR.en (by omega)) ?_
        refine r_if_eq (μ := mX11_ladder) (pc := 45) (tgt := 54) dX11_ladder_45 (by decide) (fun h_45 => ?_) (fun h_45 => ?_)
        · have h_45 := b2i_0 h_45
          refine r_ldc (μ := mX11_ladder) (pc := 54) dX11_ladder_54 ctX11_97 ?_
          exact r_iret (μ := mX11_ladder) (pc := 56) dX11_ladder_56 rfl rfl (PI_i rfl)
        · have h_45 := b2i_1 h_45
          refine r_iload_n (μ := mX11_ladder) (pc := 48) dX11_ladder_48 rfl rfl ?_
          refine r_iload (μ := mX11_ladder) (pc := 49) dX11_ladder_49 rfl ?_
          refine r_icmp_ne (μ := mX11_ladder) (pc := 51) (tgt := 57) dX11_ladder_51 (by decide) (fun h_51 => ?_) (fun h_51 => ?_)
          · exact absurd ⟨h_6, h_13, h_30, h_45, h_51⟩ hb
          · refine r_ldc (μ := mX11_ladder) (pc := 54) dX11_ladder_54 ctX11_97 ?_
            exact r_iret (μ := mX11_ladder) (pc := 56) dX11_ladder_56 rfl rfl (PI_i rfl)
    · have h_13 := b2i_0 h_13
      refine r_ldc (μ := mX11_ladder) (pc := 16) dX11_ladder_16 ctX11_97 ?_
      exact r_iret (μ := mX11_ladder) (pc := 18) dX11_ladder_18 rfl rfl (PI_i rfl)

theorem k_ladder_full {d : Nat} {sh : List Sh} {mi : MI} {mr : MR} (hF : SHC sh) (hB : CB mr) {s : Rw} {n m p q : Nat} (hR : RT sh mi mr 8 s n m p q) (hI : Inv s n m p q) {k g f t : Int32} (h1 : inB k 0 5 = true) (h2 : inB g 1 99 = true) (h3 : inR f n = true) (h4 : inR t n = true) (h5 : ¬ f = t) (hm : m = 8) : CP (d + 1) mX11_ladder [.ref 0, .int k, .int g, .int f, .int t] sh mi mr 0 0 (PI (FULLc) sh mi mr) := by
  have hn10 := hI.n10; have hm8 := hI.m8; have hp6 := hI.p6; have hq14 := hI.q14
  have hT := TB.of hF hB (Or.inl rfl)
  refine CP.of (L := [_, _, _, _, _]) (by decide) rfl rfl (Nat.le_of_ble_eq_true rfl) ?_
  refine r_iload_n (μ := mX11_ladder) (pc := 0) dX11_ladder_0 rfl rfl ?_
  refine r_bipush (μ := mX11_ladder) (pc := 1) (v := 6) dX11_ladder_1 bp_6 ?_
  refine sP2 (μ := mX11_ladder) (pc := 3) (μ2 := mX11_within) dX11_ladder_3 lkX11_93 stX11_within mwX11_within (Nat.le_of_ble_eq_true rfl) (k_within (n := 6) rfl (by decide)) ?_
  rw [inR_B _ 5]
  refine r_if_eq (μ := mX11_ladder) (pc := 6) (tgt := 16) dX11_ladder_6 (by decide) (fun h_6 => absurd h_6 (b2i_ne h1)) (fun h_6 => ?_)
  refine r_iload_n (μ := mX11_ladder) (pc := 9) dX11_ladder_9 rfl rfl ?_
  refine sP1 (μ := mX11_ladder) (pc := 10) (μ2 := mX11_isLength) dX11_ladder_10 lkX11_135 stX11_isLength mwX11_isLength (Nat.le_of_ble_eq_true rfl) k_isLength ?_
  refine r_if_ne (μ := mX11_ladder) (pc := 13) (tgt := 19) dX11_ladder_13 (by decide) (fun h_13 => ?_) (fun h_13 => absurd h_13 (b2i_ne h2))
  refine r_iload_n (μ := mX11_ladder) (pc := 19) dX11_ladder_19 rfl rfl ?_
  refine r_aload_n (μ := mX11_ladder) (pc := 20) dX11_ladder_20 rfl rfl rfl ?_
  refine r_getR (μ := mX11_ladder) (pc := 21) dX11_ladder_21 fpX11_36 rfl (hF _ _ rfl) (by decide) (hB _ _ _ rfl) ?_
  refine r_getI (μ := mX11_ladder) (pc := 24) dX11_ladder_24 fpX11_98 rfl (hF _ _ rfl) (by decide) ?_
  refine sP2 (μ := mX11_ladder) (pc := 27) (μ2 := mX11_within) dX11_ladder_27 lkX11_93 stX11_within mwX11_within (Nat.le_of_ble_eq_true rfl) (k_within hR.en (by omega)) ?_
  refine r_if_eq (μ := mX11_ladder) (pc := 30) (tgt := 54) dX11_ladder_30 (by decide) (fun h_30 => absurd h_30 (b2i_ne h3)) (fun h_30 => ?_)
  refine r_iload (μ := mX11_ladder) (pc := 33) dX11_ladder_33 rfl ?_
  refine r_aload_n (μ := mX11_ladder) (pc := 35) dX11_ladder_35 rfl rfl rfl ?_
  refine r_getR (μ := mX11_ladder) (pc := 36) dX11_ladder_36 fpX11_36 rfl (hF _ _ rfl) (by decide) (hB _ _ _ rfl) ?_
  refine r_getI (μ := mX11_ladder) (pc := 39) dX11_ladder_39 fpX11_98 rfl (hF _ _ rfl) (by decide) ?_
  refine sP2 (μ := mX11_ladder) (pc := 42) (μ2 := mX11_within) dX11_ladder_42 lkX11_93 stX11_within mwX11_within (Nat.le_of_ble_eq_true rfl) (k_within hR.en (by omega)) ?_
  refine r_if_eq (μ := mX11_ladder) (pc := 45) (tgt := 54) dX11_ladder_45 (by decide) (fun h_45 => absurd h_45 (b2i_ne h4)) (fun h_45 => ?_)
  refine r_iload_n (μ := mX11_ladder) (pc := 48) dX11_ladder_48 rfl rfl ?_
  refine r_iload (μ := mX11_ladder) (pc := 49) dX11_ladder_49 rfl ?_
  refine r_icmp_ne (μ := mX11_ladder) (pc := 51) (tgt := 57) dX11_ladder_51 (by decide) (fun h_51 => ?_) (fun h_51 => absurd h_51 h5)
  refine r_aload_n (μ := mX11_ladder) (pc := 57) dX11_ladder_57 rfl rfl rfl ?_
  refine r_getR (μ := mX11_ladder) (pc := 58) dX11_ladder_58 fpX11_36 rfl (hF _ _ rfl) (by decide) (hB _ _ _ rfl) ?_
  refine r_getI (μ := mX11_ladder) (pc := 61) dX11_ladder_61 fpX11_139 rfl (hF _ _ rfl) (by decide) ?_
  refine r_bipush (μ := mX11_ladder) (pc := 64) (v := 8) dX11_ladder_64 bp_8 ?_
  refine r_icmp_lt (μ := mX11_ladder) (pc := 66) (tgt := 72) dX11_ladder_66 (by decide) (fun h_66 => absurd h_66 (by rw [hR.em, hm]; decide)) (fun h_66 => ?_)
  refine r_ldc (μ := mX11_ladder) (pc := 69) dX11_ladder_69 ctX11_101 ?_
  exact r_iret (μ := mX11_ladder) (pc := 71) dX11_ladder_71 rfl rfl (PI_i rfl)

theorem k_ladder {d : Nat} {sh : List Sh} {mi : MI} {mr : MR} (hF : SHC sh) (hB : CB mr) {s : Rw} {n m p q : Nat} (hR : RT sh mi mr 8 s n m p q) (hI : Inv s n m p q) {k g f t : Int32} (h1 : inB k 0 5 = true) (h2 : inB g 1 99 = true) (h3 : inR f n = true) (h4 : inR t n = true) (h5 : ¬ f = t) (hm : m < 8) : CP (d + 1) mX11_ladder [.ref 0, .int k, .int g, .int f, .int t] sh mi mr 0 0 (PX sh mr (fun r mi2 => r = nI m ∧ mi2 = upI (upI (upI (upI (upI mi 11 m k) 12 m g) 13 m f) 14 m t) 8 4 (nI (m + 1)))) := by
  have hn10 := hI.n10; have hm8 := hI.m8; have hp6 := hI.p6; have hq14 := hI.q14
  have hT := TB.of hF hB (Or.inl rfl)
  refine CP.of (L := [_, _, _, _, _]) (by decide) rfl rfl (Nat.le_of_ble_eq_true rfl) ?_
  refine r_iload_n (μ := mX11_ladder) (pc := 0) dX11_ladder_0 rfl rfl ?_
  refine r_bipush (μ := mX11_ladder) (pc := 1) (v := 6) dX11_ladder_1 bp_6 ?_
  refine sP2 (μ := mX11_ladder) (pc := 3) (μ2 := mX11_within) dX11_ladder_3 lkX11_93 stX11_within mwX11_within (Nat.le_of_ble_eq_true rfl) (k_within (n := 6) rfl (by decide)) ?_
  rw [inR_B _ 5]
  refine r_if_eq (μ := mX11_ladder) (pc := 6) (tgt := 16) dX11_ladder_6 (by decide) (fun h_6 => absurd h_6 (b2i_ne h1)) (fun h_6 => ?_)
  refine r_iload_n (μ := mX11_ladder) (pc := 9) dX11_ladder_9 rfl rfl ?_
  refine sP1 (μ := mX11_ladder) (pc := 10) (μ2 := mX11_isLength) dX11_ladder_10 lkX11_135 stX11_isLength mwX11_isLength (Nat.le_of_ble_eq_true rfl) k_isLength ?_
  refine r_if_ne (μ := mX11_ladder) (pc := 13) (tgt := 19) dX11_ladder_13 (by decide) (fun h_13 => ?_) (fun h_13 => absurd h_13 (b2i_ne h2))
  refine r_iload_n (μ := mX11_ladder) (pc := 19) dX11_ladder_19 rfl rfl ?_
  refine r_aload_n (μ := mX11_ladder) (pc := 20) dX11_ladder_20 rfl rfl rfl ?_
  refine r_getR (μ := mX11_ladder) (pc := 21) dX11_ladder_21 fpX11_36 rfl (hF _ _ rfl) (by decide) (hB _ _ _ rfl) ?_
  refine r_getI (μ := mX11_ladder) (pc := 24) dX11_ladder_24 fpX11_98 rfl (hF _ _ rfl) (by decide) ?_
  refine sP2 (μ := mX11_ladder) (pc := 27) (μ2 := mX11_within) dX11_ladder_27 lkX11_93 stX11_within mwX11_within (Nat.le_of_ble_eq_true rfl) (k_within hR.en (by omega)) ?_
  refine r_if_eq (μ := mX11_ladder) (pc := 30) (tgt := 54) dX11_ladder_30 (by decide) (fun h_30 => absurd h_30 (b2i_ne h3)) (fun h_30 => ?_)
  refine r_iload (μ := mX11_ladder) (pc := 33) dX11_ladder_33 rfl ?_
  refine r_aload_n (μ := mX11_ladder) (pc := 35) dX11_ladder_35 rfl rfl rfl ?_
  refine r_getR (μ := mX11_ladder) (pc := 36) dX11_ladder_36 fpX11_36 rfl (hF _ _ rfl) (by decide) (hB _ _ _ rfl) ?_
  refine r_getI (μ := mX11_ladder) (pc := 39) dX11_ladder_39 fpX11_98 rfl (hF _ _ rfl) (by decide) ?_
  refine sP2 (μ := mX11_ladder) (pc := 42) (μ2 := mX11_within) dX11_ladder_42 lkX11_93 stX11_within mwX11_within (Nat.le_of_ble_eq_true rfl) (k_within hR.en (by omega)) ?_
  refine r_if_eq (μ := mX11_ladder) (pc := 45) (tgt := 54) dX11_ladder_45 (by decide) (fun h_45 => absurd h_45 (b2i_ne h4)) (fun h_45 => ?_)
  refine r_iload_n (μ := mX11_ladder) (pc := 48) dX11_ladder_48 rfl rfl ?_
  refine r_iload (μ := mX11_ladder) (pc := 49) dX11_ladder_49 rfl ?_
  refine r_icmp_ne (μ := mX11_ladder) (pc := 51) (tgt := 57) dX11_ladder_51 (by decide) (fun h_51 => ?_) (fun h_51 => absurd h_51 h5)
  refine r_aload_n (μ := mX11_ladder) (pc := 57) dX11_ladder_57 rfl rfl rfl ?_
  refine r_getR (μ := mX11_ladder) (pc := 58) dX11_ladder_58 fpX11_36 rfl (hF _ _ rfl) (by decide) (hB _ _ _ rfl) ?_
  refine r_getI (μ := mX11_ladder) (pc := 61) dX11_ladder_61 fpX11_139 rfl (hF _ _ rfl) (by decide) ?_
  refine r_bipush (μ := mX11_ladder) (pc := 64) (v := 8) dX11_ladder_64 bp_8 ?_
  refine r_icmp_lt (μ := mX11_ladder) (pc := 66) (tgt := 72) dX11_ladder_66 (by decide) (fun h_66 => ?_) (fun h_66 => absurd (by rw [hR.em]; exact nI_lt (b := 8) hm (by decide)) h_66)
  refine r_aload_n (μ := mX11_ladder) (pc := 72) dX11_ladder_72 rfl rfl rfl ?_
  refine r_getR (μ := mX11_ladder) (pc := 73) dX11_ladder_73 fpX11_36 rfl (hF _ _ rfl) (by decide) (hB _ _ _ rfl) ?_
  refine r_iload_n (μ := mX11_ladder) (pc := 76) dX11_ladder_76 rfl rfl ?_
  refine r_iload_n (μ := mX11_ladder) (pc := 77) dX11_ladder_77 rfl rfl ?_
  refine r_iload_n (μ := mX11_ladder) (pc := 78) dX11_ladder_78 rfl rfl ?_
  refine r_iload (μ := mX11_ladder) (pc := 79) dX11_ladder_79 rfl ?_
  refine vX4 (μ := mX11_ladder) (pc := 81) (c0 := 9) (q0 := (RX9, TX9, 20)) (μ2 := mX9_addLadder) dX11_ladder_81 (hF _ _ rfl) rfl lkX11_142 imX9_addLadder seX9_X9_addLadder_X9_addLadder mwX9_addLadder (Nat.le_of_ble_eq_true rfl) (k_addLadder hT hR.em hm) (fun r_81 mi_81 h_81 => ?_)
  obtain ⟨rfl, rfl⟩ := h_81
  exact r_iret (μ := mX11_ladder) (pc := 84) dX11_ladder_84 rfl rfl (PX_i ⟨rfl, rfl⟩)

theorem k_told_bad {d : Nat} {sh : List Sh} {mi : MI} {mr : MR} (hF : SHC sh) (hB : CB mr) {s : Rw} {n m p q : Nat} (hR : RT sh mi mr 8 s n m p q) (hI : Inv s n m p q) {x w : Int32} (hb : ¬ (inR x m = true ∧ inB w 0 9 = true)) : CP (d + 1) mX11_told [.ref 0, .int x, .int w] sh mi mr 0 0 (PI (BADc) sh mi mr) := by
  have hn10 := hI.n10; have hm8 := hI.m8; have hp6 := hI.p6; have hq14 := hI.q14
  have hT := TB.of hF hB (Or.inl rfl)
  refine CP.of (L := [_, _, _]) (by decide) rfl rfl (Nat.le_of_ble_eq_true rfl) ?_
  refine r_iload_n (μ := mX11_told) (pc := 0) dX11_told_0 rfl rfl ?_
  refine r_aload_n (μ := mX11_told) (pc := 1) dX11_told_1 rfl rfl rfl ?_
  refine r_getR (μ := mX11_told) (pc := 2) dX11_told_2 fpX11_36 rfl (hF _ _ rfl) (by decide) (hB _ _ _ rfl) ?_
  refine r_getI (μ := mX11_told) (pc := 5) dX11_told_5 fpX11_139 rfl (hF _ _ rfl) (by decide) ?_
  refine sP2 (μ := mX11_told) (pc := 8) (μ2 := mX11_within) dX11_told_8 lkX11_93 stX11_within mwX11_within (Nat.le_of_ble_eq_true rfl) (k_within hR.em (by omega)) ?_
  refine r_if_ne (μ := mX11_told) (pc := 11) (tgt := 17) dX11_told_11 (by decide) (fun h_11 => ?_) (fun h_11 => ?_)
  · have h_11 := b2i_1 h_11
    have hw3 : ¬ inB w 0 9 = true := fun z => hb ⟨h_11, z⟩
    refine r_iload_n (μ := mX11_told) (pc := 17) dX11_told_17 rfl rfl ?_
    refine r_tabOut (μ := mX11_told) (pc := 18) (tgt := 203) dX11_told_18 (by unfold inB at hw3; simp only [decide_eq_true_eq] at hw3; omega) (by decide) ?_
    refine r_ldc (μ := mX11_told) (pc := 203) dX11_told_203 ctX11_97 ?_
    exact r_iret (μ := mX11_told) (pc := 205) dX11_told_205 rfl rfl (PI_i rfl)
  · have h_11 := b2i_0 h_11
    refine r_ldc (μ := mX11_told) (pc := 14) dX11_told_14 ctX11_97 ?_
    exact r_iret (μ := mX11_told) (pc := 16) dX11_told_16 rfl rfl (PI_i rfl)

theorem k_told {d : Nat} {sh : List Sh} {mi : MI} {mr : MR} (hF : SHC sh) (hB : CB mr) {s : Rw} {n m p q : Nat} (hR : RT sh mi mr 8 s n m p q) (hI : Inv s n m p q) {l w : Nat} (hl : l < m) (hw : w < 10) : CP (d + 6) mX11_told [.ref 0, .int (nI l), .int (nI w)] sh mi mr 0 0 (PX sh mr (fun r mi2 => r = toldS s n q l w ∧ SP 19 mi mi2)) := by
  have hn10 := hI.n10; have hm8 := hI.m8; have hp6 := hI.p6; have hq14 := hI.q14
  have hT := TB.of hF hB (Or.inl rfl)
  have ek : knd s l = nI (kN s l) := hI.k hl
  have hw9 : w = 0 ∨ w = 1 ∨ w = 2 ∨ w = 3 ∨ w = 4 ∨ w = 5 ∨ w = 6 ∨ w = 7 ∨ w = 8 ∨ w = 9 := by omega
  refine CP.of (L := [_, _, _]) (by decide) rfl rfl (Nat.le_of_ble_eq_true rfl) ?_
  refine r_iload_n (μ := mX11_told) (pc := 0) dX11_told_0 rfl rfl ?_
  refine r_aload_n (μ := mX11_told) (pc := 1) dX11_told_1 rfl rfl rfl ?_
  refine r_getR (μ := mX11_told) (pc := 2) dX11_told_2 fpX11_36 rfl (hF _ _ rfl) (by decide) (hB _ _ _ rfl) ?_
  refine r_getI (μ := mX11_told) (pc := 5) dX11_told_5 fpX11_139 rfl (hF _ _ rfl) (by decide) ?_
  refine sP2 (μ := mX11_told) (pc := 8) (μ2 := mX11_within) dX11_told_8 lkX11_93 stX11_within mwX11_within (Nat.le_of_ble_eq_true rfl) (k_within hR.em (by omega)) ?_
  refine r_if_ne (μ := mX11_told) (pc := 11) (tgt := 17) dX11_told_11 (by decide) (fun h_11 => ?_) (fun h_11 => absurd h_11 (b2i_ne (inR_nI hl (by omega))))
  refine r_iload_n (μ := mX11_told) (pc := 17) dX11_told_17 rfl rfl ?_
  rcases hw9 with rfl | rfl | rfl | rfl | rfl | rfl | rfl | rfl | rfl | rfl
  · refine r_tabIn (μ := mX11_told) (pc := 18) (tgt := 72) dX11_told_18 (by decide) (by decide) rfl (by decide) ?_
    refine r_aload_n (μ := mX11_told) (pc := 72) dX11_told_72 rfl rfl rfl ?_
    refine r_getR (μ := mX11_told) (pc := 73) dX11_told_73 fpX11_36 rfl (hF _ _ rfl) (by decide) (hB _ _ _ rfl) ?_
    refine r_getR (μ := mX11_told) (pc := 76) dX11_told_76 fpX11_146 rfl (hF _ _ rfl) (by decide) (hB _ _ _ rfl) ?_
    refine r_iload_n (μ := mX11_told) (pc := 79) dX11_told_79 rfl rfl ?_
    refine r_iaload (μ := mX11_told) (pc := 80) (j := l) dX11_told_80 (hF _ _ rfl) rfl (by omega) (by decide) ?_
    rw [hR.kd hl]
    exact r_iret (μ := mX11_told) (pc := 81) dX11_told_81 rfl rfl (PX_i ⟨rfl, SP.rf _ _⟩)
  · refine r_tabIn (μ := mX11_told) (pc := 18) (tgt := 82) dX11_told_18 (by decide) (by decide) rfl (by decide) ?_
    refine r_aload_n (μ := mX11_told) (pc := 82) dX11_told_82 rfl rfl rfl ?_
    refine r_getR (μ := mX11_told) (pc := 83) dX11_told_83 fpX11_36 rfl (hF _ _ rfl) (by decide) (hB _ _ _ rfl) ?_
    refine r_getR (μ := mX11_told) (pc := 86) dX11_told_86 fpX11_149 rfl (hF _ _ rfl) (by decide) (hB _ _ _ rfl) ?_
    refine r_iload_n (μ := mX11_told) (pc := 89) dX11_told_89 rfl rfl ?_
    refine r_iaload (μ := mX11_told) (pc := 90) (j := l) dX11_told_90 (hF _ _ rfl) rfl (by omega) (by decide) ?_
    rw [hR.ln hl]
    exact r_iret (μ := mX11_told) (pc := 91) dX11_told_91 rfl rfl (PX_i ⟨rfl, SP.rf _ _⟩)
  · refine r_tabIn (μ := mX11_told) (pc := 18) (tgt := 92) dX11_told_18 (by decide) (by decide) rfl (by decide) ?_
    refine r_aload_n (μ := mX11_told) (pc := 92) dX11_told_92 rfl rfl rfl ?_
    refine r_getR (μ := mX11_told) (pc := 93) dX11_told_93 fpX11_36 rfl (hF _ _ rfl) (by decide) (hB _ _ _ rfl) ?_
    refine r_getR (μ := mX11_told) (pc := 96) dX11_told_96 fpX11_152 rfl (hF _ _ rfl) (by decide) (hB _ _ _ rfl) ?_
    refine r_iload_n (μ := mX11_told) (pc := 99) dX11_told_99 rfl rfl ?_
    refine r_iaload (μ := mX11_told) (pc := 100) (j := l) dX11_told_100 (hF _ _ rfl) rfl (by omega) (by decide) ?_
    rw [hR.ft hl]
    exact r_iret (μ := mX11_told) (pc := 101) dX11_told_101 rfl rfl (PX_i ⟨rfl, SP.rf _ _⟩)
  · refine r_tabIn (μ := mX11_told) (pc := 18) (tgt := 102) dX11_told_18 (by decide) (by decide) rfl (by decide) ?_
    refine r_aload_n (μ := mX11_told) (pc := 102) dX11_told_102 rfl rfl rfl ?_
    refine r_getR (μ := mX11_told) (pc := 103) dX11_told_103 fpX11_36 rfl (hF _ _ rfl) (by decide) (hB _ _ _ rfl) ?_
    refine r_getR (μ := mX11_told) (pc := 106) dX11_told_106 fpX11_155 rfl (hF _ _ rfl) (by decide) (hB _ _ _ rfl) ?_
    refine r_iload_n (μ := mX11_told) (pc := 109) dX11_told_109 rfl rfl ?_
    refine r_iaload (μ := mX11_told) (pc := 110) (j := l) dX11_told_110 (hF _ _ rfl) rfl (by omega) (by decide) ?_
    rw [hR.tp hl]
    exact r_iret (μ := mX11_told) (pc := 111) dX11_told_111 rfl rfl (PX_i ⟨rfl, SP.rf _ _⟩)
  · refine r_tabIn (μ := mX11_told) (pc := 18) (tgt := 112) dX11_told_18 (by decide) (by decide) rfl (by decide) ?_
    refine r_aload_n (μ := mX11_told) (pc := 112) dX11_told_112 rfl rfl rfl ?_
    refine r_getR (μ := mX11_told) (pc := 113) dX11_told_113 fpX11_36 rfl (hF _ _ rfl) (by decide) (hB _ _ _ rfl) ?_
    refine r_iload_n (μ := mX11_told) (pc := 116) dX11_told_116 rfl rfl ?_
    refine vP1 (μ := mX11_told) (pc := 117) (c0 := 9) (q0 := (RX9, TX9, 20)) (μ2 := mX9_reachOf) dX11_told_117 (hF _ _ rfl) rfl lkX11_158 imX9_reachOf seX9_X9_reachOf_X9_reachOf mwX9_reachOf (Nat.le_of_ble_eq_true rfl) (k_reachOf hT (by decide) hR hI hl) ?_
    exact r_iret (μ := mX11_told) (pc := 120) dX11_told_120 rfl rfl (PX_i ⟨rfl, SP.rf _ _⟩)
  · refine r_tabIn (μ := mX11_told) (pc := 18) (tgt := 121) dX11_told_18 (by decide) (by decide) rfl (by decide) ?_
    refine r_aload_n (μ := mX11_told) (pc := 121) dX11_told_121 rfl rfl rfl ?_
    refine r_getR (μ := mX11_told) (pc := 122) dX11_told_122 fpX11_36 rfl (hF _ _ rfl) (by decide) (hB _ _ _ rfl) ?_
    refine r_iload_n (μ := mX11_told) (pc := 125) dX11_told_125 rfl rfl ?_
    refine vP1 (μ := mX11_told) (pc := 126) (c0 := 9) (q0 := (RX9, TX9, 20)) (μ2 := mX9_minutesOf) dX11_told_126 (hF _ _ rfl) rfl lkX11_161 imX9_minutesOf seX9_X9_minutesOf_X9_minutesOf mwX9_minutesOf (Nat.le_of_ble_eq_true rfl) (k_minutesOf hT (by decide) hR hI hl) ?_
    exact r_iret (μ := mX11_told) (pc := 129) dX11_told_129 rfl rfl (PX_i ⟨rfl, SP.rf _ _⟩)
  · refine r_tabIn (μ := mX11_told) (pc := 18) (tgt := 130) dX11_told_18 (by decide) (by decide) rfl (by decide) ?_
    refine r_aload_n (μ := mX11_told) (pc := 130) dX11_told_130 rfl rfl rfl ?_
    refine r_getR (μ := mX11_told) (pc := 131) dX11_told_131 fpX11_36 rfl (hF _ _ rfl) (by decide) (hB _ _ _ rfl) ?_
    refine r_iload_n (μ := mX11_told) (pc := 134) dX11_told_134 rfl rfl ?_
    refine vX1 (μ := mX11_told) (pc := 135) (c0 := 9) (q0 := (RX9, TX9, 20)) (μ2 := mX9_standsNow) dX11_told_135 (hF _ _ rfl) rfl lkX11_164 imX9_standsNow seX9_X9_standsNow_X9_standsNow mwX9_standsNow (Nat.le_of_ble_eq_true rfl) (k_standsNow hT (by decide) hR hI hl) (fun r_135 mi_135 h_135 => ?_)
    obtain ⟨rfl, h135⟩ := h_135
    refine r_if_eq (μ := mX11_told) (pc := 138) (tgt := 145) dX11_told_138 (by decide) (fun h_138 => ?_) (fun h_138 => ?_)
    · have h_138 := b2i_0 h_138
      refine r_iconst (μ := mX11_told) (pc := 145) (v := 0) dX11_told_145 ic_0 ?_
      exact r_iret (μ := mX11_told) (pc := 146) dX11_told_146 rfl rfl (PX_i ⟨by show _ = b2i (stdS s q l); rw [h_138]; rfl, h135⟩)
    · have h_138 := b2i_1 h_138
      refine r_iconst (μ := mX11_told) (pc := 141) (v := 1) dX11_told_141 ic_1 ?_
      refine r_goto (μ := mX11_told) (pc := 142) (tgt := 146) dX11_told_142 (by decide) ?_
      exact r_iret (μ := mX11_told) (pc := 146) dX11_told_146 rfl rfl (PX_i ⟨by show _ = b2i (stdS s q l); rw [h_138]; rfl, h135⟩)
  · refine r_tabIn (μ := mX11_told) (pc := 18) (tgt := 147) dX11_told_18 (by decide) (by decide) rfl (by decide) ?_
    refine r_aload_n (μ := mX11_told) (pc := 147) dX11_told_147 rfl rfl rfl ?_
    refine r_getR (μ := mX11_told) (pc := 148) dX11_told_148 fpX11_36 rfl (hF _ _ rfl) (by decide) (hB _ _ _ rfl) ?_
    refine r_getI (μ := mX11_told) (pc := 151) dX11_told_151 fpX11_167 rfl (hF _ _ rfl) (by decide) ?_
    rw [hR.mv]
    refine r_iload_n (μ := mX11_told) (pc := 154) dX11_told_154 rfl rfl ?_
    refine sP2 (μ := mX11_told) (pc := 155) (μ2 := mX11_has) dX11_told_155 lkX11_170 stX11_has mwX11_has (Nat.le_of_ble_eq_true rfl) (k_has rfl (by omega)) ?_
    refine r_if_eq (μ := mX11_told) (pc := 158) (tgt := 165) dX11_told_158 (by decide) (fun h_158 => ?_) (fun h_158 => ?_)
    · have h_158 := b2i_0 h_158
      rw [bt_bits _ m (by omega) l (by omega), decide_eq_true hl, Bool.true_and] at h_158
      have hmv : mvd s l = 0 := (hI.mv hl).resolve_right (of_decide_eq_false h_158)
      refine r_iconst (μ := mX11_told) (pc := 165) (v := 0) dX11_told_165 ic_0 ?_
      exact r_iret (μ := mX11_told) (pc := 166) dX11_told_166 rfl rfl (PX_i ⟨by show _ = mvd s l; rw [hmv], SP.rf _ _⟩)
    · have h_158 := b2i_1 h_158
      rw [bt_bits _ m (by omega) l (by omega), decide_eq_true hl, Bool.true_and] at h_158
      have hmv : mvd s l = 1 := of_decide_eq_true h_158
      refine r_iconst (μ := mX11_told) (pc := 161) (v := 1) dX11_told_161 ic_1 ?_
      refine r_goto (μ := mX11_told) (pc := 162) (tgt := 166) dX11_told_162 (by decide) ?_
      exact r_iret (μ := mX11_told) (pc := 166) dX11_told_166 rfl rfl (PX_i ⟨by show _ = mvd s l; rw [hmv], SP.rf _ _⟩)
  · refine r_tabIn (μ := mX11_told) (pc := 18) (tgt := 167) dX11_told_18 (by decide) (by decide) rfl (by decide) ?_
    refine r_aload_n (μ := mX11_told) (pc := 167) dX11_told_167 rfl rfl rfl ?_
    refine r_getR (μ := mX11_told) (pc := 168) dX11_told_168 fpX11_25 rfl (hF _ _ rfl) (by decide) (hB _ _ _ rfl) ?_
    refine r_aload_n (μ := mX11_told) (pc := 171) dX11_told_171 rfl rfl rfl ?_
    refine r_getR (μ := mX11_told) (pc := 172) dX11_told_172 fpX11_36 rfl (hF _ _ rfl) (by decide) (hB _ _ _ rfl) ?_
    refine r_getR (μ := mX11_told) (pc := 175) dX11_told_175 fpX11_146 rfl (hF _ _ rfl) (by decide) (hB _ _ _ rfl) ?_
    refine r_iload_n (μ := mX11_told) (pc := 178) dX11_told_178 rfl rfl ?_
    refine r_iaload (μ := mX11_told) (pc := 179) (j := l) dX11_told_179 (hF _ _ rfl) rfl (by omega) (by decide) ?_
    rw [hR.kd hl, ek]
    refine r_aaload (μ := mX11_told) (pc := 180) (t := 0) dX11_told_180 (by decide) (hF _ _ rfl) rfl (hI.k6 hl) (by decide) (hT.2.2.2.2.1 _ (hI.k6 hl)) ?_
    refine r_aload_n (μ := mX11_told) (pc := 181) dX11_told_181 rfl rfl rfl ?_
    refine r_getR (μ := mX11_told) (pc := 182) dX11_told_182 fpX11_36 rfl (hF _ _ rfl) (by decide) (hB _ _ _ rfl) ?_
    refine r_getR (μ := mX11_told) (pc := 185) dX11_told_185 fpX11_149 rfl (hF _ _ rfl) (by decide) (hB _ _ _ rfl) ?_
    refine r_iload_n (μ := mX11_told) (pc := 188) dX11_told_188 rfl rfl ?_
    refine r_iaload (μ := mX11_told) (pc := 189) (j := l) dX11_told_189 (hF _ _ rfl) rfl (by omega) (by decide) ?_
    rw [hR.ln hl]
    refine kv_worth (μ := mX11_told) (pc := 190) dX11_told_190 lkX11_173 hT.2.2.2 (hI.k6 hl) (Nat.le_of_ble_eq_true rfl) ?_
    exact r_iret (μ := mX11_told) (pc := 193) dX11_told_193 rfl rfl (PX_i ⟨by show _ = wthK (knd s l) (lng s l); rw [ek], SP.rf _ _⟩)
  · refine r_tabIn (μ := mX11_told) (pc := 18) (tgt := 194) dX11_told_18 (by decide) (by decide) rfl (by decide) ?_
    refine r_aload_n (μ := mX11_told) (pc := 194) dX11_told_194 rfl rfl rfl ?_
    refine r_getR (μ := mX11_told) (pc := 195) dX11_told_195 fpX11_36 rfl (hF _ _ rfl) (by decide) (hB _ _ _ rfl) ?_
    refine r_iload_n (μ := mX11_told) (pc := 198) dX11_told_198 rfl rfl ?_
    refine vX1 (μ := mX11_told) (pc := 199) (c0 := 9) (q0 := (RX9, TX9, 20)) (μ2 := mX9_ledgesInReach) dX11_told_199 (hF _ _ rfl) rfl lkX11_176 imX9_ledgesInReach seX9_X9_ledgesInReach_X9_ledgesInReach mwX9_ledgesInReach (Nat.le_of_ble_eq_true rfl) (k_ledgesInReach hT (by decide) hR hI hl) (fun r_199 mi_199 h_199 => ?_)
    obtain ⟨rfl, h199⟩ := h_199
    exact r_iret (μ := mX11_told) (pc := 202) dX11_told_202 rfl rfl (PX_i ⟨rfl, h199⟩)

theorem k_as_bad {d : Nat} {sh : List Sh} {mi : MI} {mr : MR} (hF : SHC sh) (hB : CB mr) {s : Rw} {n m p q : Nat} (hR : RT sh mi mr 8 s n m p q) (hI : Inv s n m p q) {x w : Int32} (hb : ¬ (inR x m = true ∧ inB w 0 5 = true)) : CP (d + 1) mX11_as [.ref 0, .int x, .int w] sh mi mr 0 0 (PI (BADc) sh mi mr) := by
  have hn10 := hI.n10; have hm8 := hI.m8; have hp6 := hI.p6; have hq14 := hI.q14
  have hT := TB.of hF hB (Or.inl rfl)
  refine CP.of (L := [_, _, _]) (by decide) rfl rfl (Nat.le_of_ble_eq_true rfl) ?_
  refine r_iload_n (μ := mX11_as) (pc := 0) dX11_as_0 rfl rfl ?_
  refine r_aload_n (μ := mX11_as) (pc := 1) dX11_as_1 rfl rfl rfl ?_
  refine r_getR (μ := mX11_as) (pc := 2) dX11_as_2 fpX11_36 rfl (hF _ _ rfl) (by decide) (hB _ _ _ rfl) ?_
  refine r_getI (μ := mX11_as) (pc := 5) dX11_as_5 fpX11_139 rfl (hF _ _ rfl) (by decide) ?_
  refine sP2 (μ := mX11_as) (pc := 8) (μ2 := mX11_within) dX11_as_8 lkX11_93 stX11_within mwX11_within (Nat.le_of_ble_eq_true rfl) (k_within hR.em (by omega)) ?_
  refine r_if_eq (μ := mX11_as) (pc := 11) (tgt := 23) dX11_as_11 (by decide) (fun h_11 => ?_) (fun h_11 => ?_)
  · have h_11 := b2i_0 h_11
    refine r_ldc (μ := mX11_as) (pc := 23) dX11_as_23 ctX11_97 ?_
    exact r_iret (μ := mX11_as) (pc := 25) dX11_as_25 rfl rfl (PI_i rfl)
  · have h_11 := b2i_1 h_11
    refine r_iload_n (μ := mX11_as) (pc := 14) dX11_as_14 rfl rfl ?_
    refine r_bipush (μ := mX11_as) (pc := 15) (v := 6) dX11_as_15 bp_6 ?_
    refine sP2 (μ := mX11_as) (pc := 17) (μ2 := mX11_within) dX11_as_17 lkX11_93 stX11_within mwX11_within (Nat.le_of_ble_eq_true rfl) (k_within (n := 6) rfl (by decide)) ?_
    rw [inR_B _ 5]
    refine r_if_ne (μ := mX11_as) (pc := 20) (tgt := 26) dX11_as_20 (by decide) (fun h_20 => ?_) (fun h_20 => ?_)
    · have h_20 := b2i_1 h_20
      exact absurd ⟨h_11, h_20⟩ hb
    · have h_20 := b2i_0 h_20
      refine r_ldc (μ := mX11_as) (pc := 23) dX11_as_23 ctX11_97 ?_
      exact r_iret (μ := mX11_as) (pc := 25) dX11_as_25 rfl rfl (PI_i rfl)

theorem k_as {d : Nat} {sh : List Sh} {mi : MI} {mr : MR} (hF : SHC sh) (hB : CB mr) {s : Rw} {n m p q : Nat} (hR : RT sh mi mr 8 s n m p q) (hI : Inv s n m p q) {l : Nat} {w : Int32} (hl : l < m) (hw : inB w 0 5 = true) : CP (d + 3) mX11_as [.ref 0, .int (nI l), .int w] sh mi mr 0 0 (PI (if isOfB (knd s l) w then lng s l else KINDc) sh mi mr) := by
  have hn10 := hI.n10; have hm8 := hI.m8; have hp6 := hI.p6; have hq14 := hI.q14
  have hT := TB.of hF hB (Or.inl rfl)
  have ek : knd s l = nI (kN s l) := hI.k hl
  refine CP.of (L := [_, _, _]) (by decide) rfl rfl (Nat.le_of_ble_eq_true rfl) ?_
  refine r_iload_n (μ := mX11_as) (pc := 0) dX11_as_0 rfl rfl ?_
  refine r_aload_n (μ := mX11_as) (pc := 1) dX11_as_1 rfl rfl rfl ?_
  refine r_getR (μ := mX11_as) (pc := 2) dX11_as_2 fpX11_36 rfl (hF _ _ rfl) (by decide) (hB _ _ _ rfl) ?_
  refine r_getI (μ := mX11_as) (pc := 5) dX11_as_5 fpX11_139 rfl (hF _ _ rfl) (by decide) ?_
  refine sP2 (μ := mX11_as) (pc := 8) (μ2 := mX11_within) dX11_as_8 lkX11_93 stX11_within mwX11_within (Nat.le_of_ble_eq_true rfl) (k_within hR.em (by omega)) ?_
  refine r_if_eq (μ := mX11_as) (pc := 11) (tgt := 23) dX11_as_11 (by decide) (fun h_11 => absurd h_11 (b2i_ne (inR_nI hl (by omega)))) (fun h_11 => ?_)
  refine r_iload_n (μ := mX11_as) (pc := 14) dX11_as_14 rfl rfl ?_
  refine r_bipush (μ := mX11_as) (pc := 15) (v := 6) dX11_as_15 bp_6 ?_
  refine sP2 (μ := mX11_as) (pc := 17) (μ2 := mX11_within) dX11_as_17 lkX11_93 stX11_within mwX11_within (Nat.le_of_ble_eq_true rfl) (k_within (n := 6) rfl (by decide)) ?_
  rw [inR_B _ 5]
  refine r_if_ne (μ := mX11_as) (pc := 20) (tgt := 26) dX11_as_20 (by decide) (fun h_20 => ?_) (fun h_20 => absurd h_20 (b2i_ne hw))
  refine r_aload_n (μ := mX11_as) (pc := 26) dX11_as_26 rfl rfl rfl ?_
  refine r_getR (μ := mX11_as) (pc := 27) dX11_as_27 fpX11_25 rfl (hF _ _ rfl) (by decide) (hB _ _ _ rfl) ?_
  refine r_aload_n (μ := mX11_as) (pc := 30) dX11_as_30 rfl rfl rfl ?_
  refine r_getR (μ := mX11_as) (pc := 31) dX11_as_31 fpX11_36 rfl (hF _ _ rfl) (by decide) (hB _ _ _ rfl) ?_
  refine r_getR (μ := mX11_as) (pc := 34) dX11_as_34 fpX11_146 rfl (hF _ _ rfl) (by decide) (hB _ _ _ rfl) ?_
  refine r_iload_n (μ := mX11_as) (pc := 37) dX11_as_37 rfl rfl ?_
  refine r_iaload (μ := mX11_as) (pc := 38) (j := l) dX11_as_38 (hF _ _ rfl) rfl (by omega) (by decide) ?_
  rw [hR.kd hl, ek]
  refine r_aaload (μ := mX11_as) (pc := 39) (t := 0) dX11_as_39 (by decide) (hF _ _ rfl) rfl (hI.k6 hl) (by decide) (hT.2.2.2.2.1 _ (hI.k6 hl)) ?_
  refine r_iload_n (μ := mX11_as) (pc := 40) dX11_as_40 rfl rfl ?_
  refine kv_isKind (μ := mX11_as) (pc := 41) dX11_as_41 lkX11_179 hT.2.2.2 (hI.k6 hl) hw (Nat.le_of_ble_eq_true rfl) ?_
  refine r_if_eq (μ := mX11_as) (pc := 44) (tgt := 59) dX11_as_44 (by decide) (fun h_44 => ?_) (fun h_44 => ?_)
  · have h_44 := b2i_0 h_44
    refine r_ldc (μ := mX11_as) (pc := 59) dX11_as_59 ctX11_182 ?_
    exact r_iret (μ := mX11_as) (pc := 61) dX11_as_61 rfl rfl (PI_i (by rw [h_44]; rfl))
  · have h_44 := b2i_1 h_44
    refine r_aload_n (μ := mX11_as) (pc := 47) dX11_as_47 rfl rfl rfl ?_
    refine r_getR (μ := mX11_as) (pc := 48) dX11_as_48 fpX11_36 rfl (hF _ _ rfl) (by decide) (hB _ _ _ rfl) ?_
    refine r_getR (μ := mX11_as) (pc := 51) dX11_as_51 fpX11_149 rfl (hF _ _ rfl) (by decide) (hB _ _ _ rfl) ?_
    refine r_iload_n (μ := mX11_as) (pc := 54) dX11_as_54 rfl rfl ?_
    refine r_iaload (μ := mX11_as) (pc := 55) (j := l) dX11_as_55 (hF _ _ rfl) rfl (by omega) (by decide) ?_
    rw [hR.ln hl]
    refine r_goto (μ := mX11_as) (pc := 56) (tgt := 61) dX11_as_56 (by decide) ?_
    exact r_iret (μ := mX11_as) (pc := 61) dX11_as_61 rfl rfl (PI_i (by rw [h_44]; rfl))

theorem k_turns_bad {d : Nat} {sh : List Sh} {mi : MI} {mr : MR} (hF : SHC sh) (hB : CB mr) {s : Rw} {n m p q : Nat} (hR : RT sh mi mr 8 s n m p q) (hI : Inv s n m p q) {x w : Int32} (hb : ¬ (inR x m = true ∧ inB w 0 5 = true)) : CP (d + 1) mX11_turns [.ref 0, .int x, .int w] sh mi mr 0 0 (PI (BADc) sh mi mr) := by
  have hn10 := hI.n10; have hm8 := hI.m8; have hp6 := hI.p6; have hq14 := hI.q14
  have hT := TB.of hF hB (Or.inl rfl)
  refine CP.of (L := [_, _, _]) (by decide) rfl rfl (Nat.le_of_ble_eq_true rfl) ?_
  refine r_iload_n (μ := mX11_turns) (pc := 0) dX11_turns_0 rfl rfl ?_
  refine r_aload_n (μ := mX11_turns) (pc := 1) dX11_turns_1 rfl rfl rfl ?_
  refine r_getR (μ := mX11_turns) (pc := 2) dX11_turns_2 fpX11_36 rfl (hF _ _ rfl) (by decide) (hB _ _ _ rfl) ?_
  refine r_getI (μ := mX11_turns) (pc := 5) dX11_turns_5 fpX11_139 rfl (hF _ _ rfl) (by decide) ?_
  refine sP2 (μ := mX11_turns) (pc := 8) (μ2 := mX11_within) dX11_turns_8 lkX11_93 stX11_within mwX11_within (Nat.le_of_ble_eq_true rfl) (k_within hR.em (by omega)) ?_
  refine r_if_eq (μ := mX11_turns) (pc := 11) (tgt := 23) dX11_turns_11 (by decide) (fun h_11 => ?_) (fun h_11 => ?_)
  · have h_11 := b2i_0 h_11
    refine r_ldc (μ := mX11_turns) (pc := 23) dX11_turns_23 ctX11_97 ?_
    exact r_iret (μ := mX11_turns) (pc := 25) dX11_turns_25 rfl rfl (PI_i rfl)
  · have h_11 := b2i_1 h_11
    refine r_iload_n (μ := mX11_turns) (pc := 14) dX11_turns_14 rfl rfl ?_
    refine r_bipush (μ := mX11_turns) (pc := 15) (v := 6) dX11_turns_15 bp_6 ?_
    refine sP2 (μ := mX11_turns) (pc := 17) (μ2 := mX11_within) dX11_turns_17 lkX11_93 stX11_within mwX11_within (Nat.le_of_ble_eq_true rfl) (k_within (n := 6) rfl (by decide)) ?_
    rw [inR_B _ 5]
    refine r_if_ne (μ := mX11_turns) (pc := 20) (tgt := 26) dX11_turns_20 (by decide) (fun h_20 => ?_) (fun h_20 => ?_)
    · have h_20 := b2i_1 h_20
      exact absurd ⟨h_11, h_20⟩ hb
    · have h_20 := b2i_0 h_20
      refine r_ldc (μ := mX11_turns) (pc := 23) dX11_turns_23 ctX11_97 ?_
      exact r_iret (μ := mX11_turns) (pc := 25) dX11_turns_25 rfl rfl (PI_i rfl)

theorem k_turns {d : Nat} {sh : List Sh} {mi : MI} {mr : MR} (hF : SHC sh) (hB : CB mr) {s : Rw} {n m p q : Nat} (hR : RT sh mi mr 8 s n m p q) (hI : Inv s n m p q) {l : Nat} {w : Int32} (hl : l < m) (hw : inB w 0 5 = true) : CP (d + 1) mX11_turns [.ref 0, .int (nI l), .int w] sh mi mr 0 0 (PX sh mr (fun r mi2 => r = s (28 + 5 * l) ∧ mi2 = upI mi 11 l w)) := by
  have hn10 := hI.n10; have hm8 := hI.m8; have hp6 := hI.p6; have hq14 := hI.q14
  have hT := TB.of hF hB (Or.inl rfl)
  refine CP.of (L := [_, _, _]) (by decide) rfl rfl (Nat.le_of_ble_eq_true rfl) ?_
  refine r_iload_n (μ := mX11_turns) (pc := 0) dX11_turns_0 rfl rfl ?_
  refine r_aload_n (μ := mX11_turns) (pc := 1) dX11_turns_1 rfl rfl rfl ?_
  refine r_getR (μ := mX11_turns) (pc := 2) dX11_turns_2 fpX11_36 rfl (hF _ _ rfl) (by decide) (hB _ _ _ rfl) ?_
  refine r_getI (μ := mX11_turns) (pc := 5) dX11_turns_5 fpX11_139 rfl (hF _ _ rfl) (by decide) ?_
  refine sP2 (μ := mX11_turns) (pc := 8) (μ2 := mX11_within) dX11_turns_8 lkX11_93 stX11_within mwX11_within (Nat.le_of_ble_eq_true rfl) (k_within hR.em (by omega)) ?_
  refine r_if_eq (μ := mX11_turns) (pc := 11) (tgt := 23) dX11_turns_11 (by decide) (fun h_11 => absurd h_11 (b2i_ne (inR_nI hl (by omega)))) (fun h_11 => ?_)
  refine r_iload_n (μ := mX11_turns) (pc := 14) dX11_turns_14 rfl rfl ?_
  refine r_bipush (μ := mX11_turns) (pc := 15) (v := 6) dX11_turns_15 bp_6 ?_
  refine sP2 (μ := mX11_turns) (pc := 17) (μ2 := mX11_within) dX11_turns_17 lkX11_93 stX11_within mwX11_within (Nat.le_of_ble_eq_true rfl) (k_within (n := 6) rfl (by decide)) ?_
  rw [inR_B _ 5]
  refine r_if_ne (μ := mX11_turns) (pc := 20) (tgt := 26) dX11_turns_20 (by decide) (fun h_20 => ?_) (fun h_20 => absurd h_20 (b2i_ne hw))
  refine r_aload_n (μ := mX11_turns) (pc := 26) dX11_turns_26 rfl rfl rfl ?_
  refine r_getR (μ := mX11_turns) (pc := 27) dX11_turns_27 fpX11_36 rfl (hF _ _ rfl) (by decide) (hB _ _ _ rfl) ?_
  refine r_getR (μ := mX11_turns) (pc := 30) dX11_turns_30 fpX11_146 rfl (hF _ _ rfl) (by decide) (hB _ _ _ rfl) ?_
  refine r_iload_n (μ := mX11_turns) (pc := 33) dX11_turns_33 rfl rfl ?_
  refine r_iload_n (μ := mX11_turns) (pc := 34) dX11_turns_34 rfl rfl ?_
  refine sX3 (μ := mX11_turns) (pc := 35) (μ2 := mX11_exchange) dX11_turns_35 lkX11_119 stX11_exchange mwX11_exchange (Nat.le_of_ble_eq_true rfl) (k_exchange (hF _ _ rfl) rfl (show l < 8 by omega) (by decide)) (fun r_35 mi_35 h_35 => ?_)
  obtain ⟨rfl, rfl⟩ := h_35
  exact r_iret (μ := mX11_turns) (pc := 38) dX11_turns_38 rfl rfl (PX_i ⟨hR.kd hl, rfl⟩)

theorem k_cut_bad {d : Nat} {sh : List Sh} {mi : MI} {mr : MR} (hF : SHC sh) (hB : CB mr) {s : Rw} {n m p q : Nat} (hR : RT sh mi mr 8 s n m p q) (hI : Inv s n m p q) {x w : Int32} (hb : ¬ (inR x m = true ∧ inB w 1 99 = true)) : CP (d + 1) mX11_cut [.ref 0, .int x, .int w] sh mi mr 0 0 (PI (BADc) sh mi mr) := by
  have hn10 := hI.n10; have hm8 := hI.m8; have hp6 := hI.p6; have hq14 := hI.q14
  have hT := TB.of hF hB (Or.inl rfl)
  refine CP.of (L := [_, _, _]) (by decide) rfl rfl (Nat.le_of_ble_eq_true rfl) ?_
  refine r_iload_n (μ := mX11_cut) (pc := 0) dX11_cut_0 rfl rfl ?_
  refine r_aload_n (μ := mX11_cut) (pc := 1) dX11_cut_1 rfl rfl rfl ?_
  refine r_getR (μ := mX11_cut) (pc := 2) dX11_cut_2 fpX11_36 rfl (hF _ _ rfl) (by decide) (hB _ _ _ rfl) ?_
  refine r_getI (μ := mX11_cut) (pc := 5) dX11_cut_5 fpX11_139 rfl (hF _ _ rfl) (by decide) ?_
  refine sP2 (μ := mX11_cut) (pc := 8) (μ2 := mX11_within) dX11_cut_8 lkX11_93 stX11_within mwX11_within (Nat.le_of_ble_eq_true rfl) (k_within hR.em (by omega)) ?_
  refine r_if_eq (μ := mX11_cut) (pc := 11) (tgt := 21) dX11_cut_11 (by decide) (fun h_11 => ?_) (fun h_11 => ?_)
  · have h_11 := b2i_0 h_11
    refine r_ldc (μ := mX11_cut) (pc := 21) dX11_cut_21 ctX11_97 ?_
    exact r_iret (μ := mX11_cut) (pc := 23) dX11_cut_23 rfl rfl (PI_i rfl)
  · have h_11 := b2i_1 h_11
    refine r_iload_n (μ := mX11_cut) (pc := 14) dX11_cut_14 rfl rfl ?_
    refine sP1 (μ := mX11_cut) (pc := 15) (μ2 := mX11_isLength) dX11_cut_15 lkX11_135 stX11_isLength mwX11_isLength (Nat.le_of_ble_eq_true rfl) k_isLength ?_
    refine r_if_ne (μ := mX11_cut) (pc := 18) (tgt := 24) dX11_cut_18 (by decide) (fun h_18 => ?_) (fun h_18 => ?_)
    · have h_18 := b2i_1 h_18
      exact absurd ⟨h_11, h_18⟩ hb
    · have h_18 := b2i_0 h_18
      refine r_ldc (μ := mX11_cut) (pc := 21) dX11_cut_21 ctX11_97 ?_
      exact r_iret (μ := mX11_cut) (pc := 23) dX11_cut_23 rfl rfl (PI_i rfl)

theorem k_cut {d : Nat} {sh : List Sh} {mi : MI} {mr : MR} (hF : SHC sh) (hB : CB mr) {s : Rw} {n m p q : Nat} (hR : RT sh mi mr 8 s n m p q) (hI : Inv s n m p q) {l : Nat} {w : Int32} (hl : l < m) (hw : inB w 1 99 = true) : CP (d + 1) mX11_cut [.ref 0, .int (nI l), .int w] sh mi mr 0 0 (PX sh mr (fun r mi2 => r = s (28 + 5 * l + 1) ∧ mi2 = upI mi 12 l w)) := by
  have hn10 := hI.n10; have hm8 := hI.m8; have hp6 := hI.p6; have hq14 := hI.q14
  have hT := TB.of hF hB (Or.inl rfl)
  refine CP.of (L := [_, _, _]) (by decide) rfl rfl (Nat.le_of_ble_eq_true rfl) ?_
  refine r_iload_n (μ := mX11_cut) (pc := 0) dX11_cut_0 rfl rfl ?_
  refine r_aload_n (μ := mX11_cut) (pc := 1) dX11_cut_1 rfl rfl rfl ?_
  refine r_getR (μ := mX11_cut) (pc := 2) dX11_cut_2 fpX11_36 rfl (hF _ _ rfl) (by decide) (hB _ _ _ rfl) ?_
  refine r_getI (μ := mX11_cut) (pc := 5) dX11_cut_5 fpX11_139 rfl (hF _ _ rfl) (by decide) ?_
  refine sP2 (μ := mX11_cut) (pc := 8) (μ2 := mX11_within) dX11_cut_8 lkX11_93 stX11_within mwX11_within (Nat.le_of_ble_eq_true rfl) (k_within hR.em (by omega)) ?_
  refine r_if_eq (μ := mX11_cut) (pc := 11) (tgt := 21) dX11_cut_11 (by decide) (fun h_11 => absurd h_11 (b2i_ne (inR_nI hl (by omega)))) (fun h_11 => ?_)
  refine r_iload_n (μ := mX11_cut) (pc := 14) dX11_cut_14 rfl rfl ?_
  refine sP1 (μ := mX11_cut) (pc := 15) (μ2 := mX11_isLength) dX11_cut_15 lkX11_135 stX11_isLength mwX11_isLength (Nat.le_of_ble_eq_true rfl) k_isLength ?_
  refine r_if_ne (μ := mX11_cut) (pc := 18) (tgt := 24) dX11_cut_18 (by decide) (fun h_18 => ?_) (fun h_18 => absurd h_18 (b2i_ne hw))
  refine r_aload_n (μ := mX11_cut) (pc := 24) dX11_cut_24 rfl rfl rfl ?_
  refine r_getR (μ := mX11_cut) (pc := 25) dX11_cut_25 fpX11_36 rfl (hF _ _ rfl) (by decide) (hB _ _ _ rfl) ?_
  refine r_getR (μ := mX11_cut) (pc := 28) dX11_cut_28 fpX11_149 rfl (hF _ _ rfl) (by decide) (hB _ _ _ rfl) ?_
  refine r_iload_n (μ := mX11_cut) (pc := 31) dX11_cut_31 rfl rfl ?_
  refine r_iload_n (μ := mX11_cut) (pc := 32) dX11_cut_32 rfl rfl ?_
  refine sX3 (μ := mX11_cut) (pc := 33) (μ2 := mX11_exchange) dX11_cut_33 lkX11_119 stX11_exchange mwX11_exchange (Nat.le_of_ble_eq_true rfl) (k_exchange (hF _ _ rfl) rfl (show l < 8 by omega) (by decide)) (fun r_33 mi_33 h_33 => ?_)
  obtain ⟨rfl, rfl⟩ := h_33
  exact r_iret (μ := mX11_cut) (pc := 36) dX11_cut_36 rfl rfl (PX_i ⟨hR.ln hl, rfl⟩)

theorem k_needs_bad {d : Nat} {sh : List Sh} {mi : MI} {mr : MR} (hF : SHC sh) (hB : CB mr) {s : Rw} {n m p q : Nat} (hR : RT sh mi mr 8 s n m p q) (hI : Inv s n m p q) {x y : Int32} (hb : ¬ (inR x n = true ∧ inR y n = true ∧ ¬ x = y)) : CP (d + 1) mX11_needs [.ref 0, .int x, .int y] sh mi mr 0 0 (PI (BADc) sh mi mr) := by
  have hn10 := hI.n10; have hm8 := hI.m8; have hp6 := hI.p6; have hq14 := hI.q14
  have hT := TB.of hF hB (Or.inl rfl)
  refine CP.of (L := [_, _, _]) (by decide) rfl rfl (Nat.le_of_ble_eq_true rfl) ?_
  refine r_iload_n (μ := mX11_needs) (pc := 0) dX11_needs_0 rfl rfl ?_
  refine r_aload_n (μ := mX11_needs) (pc := 1) dX11_needs_1 rfl rfl rfl ?_
  refine r_getR (μ := mX11_needs) (pc := 2) dX11_needs_2 fpX11_36 rfl (hF _ _ rfl) (by decide) (hB _ _ _ rfl) ?_
  refine r_getI (μ := mX11_needs) (pc := 5) dX11_needs_5 fpX11_98 rfl (hF _ _ rfl) (by decide) ?_
  refine sP2 (μ := mX11_needs) (pc := 8) (μ2 := mX11_within) dX11_needs_8 lkX11_93 stX11_within mwX11_within (Nat.le_of_ble_eq_true rfl) (k_within hR.en (by omega)) ?_
  refine r_if_eq (μ := mX11_needs) (pc := 11) (tgt := 33) dX11_needs_11 (by decide) (fun h_11 => ?_) (fun h_11 => ?_)
  · have h_11 := b2i_0 h_11
    refine r_ldc (μ := mX11_needs) (pc := 33) dX11_needs_33 ctX11_97 ?_
    exact r_iret (μ := mX11_needs) (pc := 35) dX11_needs_35 rfl rfl (PI_i rfl)
  · have h_11 := b2i_1 h_11
    refine r_iload_n (μ := mX11_needs) (pc := 14) dX11_needs_14 rfl rfl ?_
    refine r_aload_n (μ := mX11_needs) (pc := 15) dX11_needs_15 rfl rfl rfl ?_
    refine r_getR (μ := mX11_needs) (pc := 16) dX11_needs_16 fpX11_36 rfl (hF _ _ rfl) (by decide) (hB _ _ _ rfl) ?_
    refine r_getI (μ := mX11_needs) (pc := 19) dX11_needs_19 fpX11_98 rfl (hF _ _ rfl) (by decide) ?_
    refine sP2 (μ := mX11_needs) (pc := 22) (μ2 := mX11_within) dX11_needs_22 lkX11_93 stX11_within mwX11_within (Nat.le_of_ble_eq_true rfl) (k_within hR.en (by omega)) ?_
    refine r_if_eq (μ := mX11_needs) (pc := 25) (tgt := 33) dX11_needs_25 (by decide) (fun h_25 => ?_) (fun h_25 => ?_)
    · have h_25 := b2i_0 h_25
      refine r_ldc (μ := mX11_needs) (pc := 33) dX11_needs_33 ctX11_97 ?_
      exact r_iret (μ := mX11_needs) (pc := 35) dX11_needs_35 rfl rfl (PI_i rfl)
    · have h_25 := b2i_1 h_25
      refine r_iload_n (μ := mX11_needs) (pc := 28) dX11_needs_28 rfl rfl ?_
      refine r_iload_n (μ := mX11_needs) (pc := 29) dX11_needs_29 rfl rfl ?_
      refine r_icmp_ne (μ := mX11_needs) (pc := 30) (tgt := 36) dX11_needs_30 (by decide) (fun h_30 => ?_) (fun h_30 => ?_)
      · exact absurd ⟨h_11, h_25, h_30⟩ hb
      · refine r_ldc (μ := mX11_needs) (pc := 33) dX11_needs_33 ctX11_97 ?_
        exact r_iret (μ := mX11_needs) (pc := 35) dX11_needs_35 rfl rfl (PI_i rfl)

theorem k_needs {d : Nat} {sh : List Sh} {mi : MI} {mr : MR} (hF : SHC sh) (hB : CB mr) {s : Rw} {n m p q : Nat} (hR : RT sh mi mr 8 s n m p q) (hI : Inv s n m p q) {x y : Nat} (hx : x < n) (hy : y < n) (hxy : x ≠ y) : CP (d + 4) mX11_needs [.ref 0, .int (nI x), .int (nI y)] sh mi mr 0 0 (PX sh mr (fun r mi2 => r = lenS s q x y ∧ SP 19 mi mi2)) := by
  have hn10 := hI.n10; have hm8 := hI.m8; have hp6 := hI.p6; have hq14 := hI.q14
  have hT := TB.of hF hB (Or.inl rfl)
  refine CP.of (L := [_, _, _]) (by decide) rfl rfl (Nat.le_of_ble_eq_true rfl) ?_
  refine r_iload_n (μ := mX11_needs) (pc := 0) dX11_needs_0 rfl rfl ?_
  refine r_aload_n (μ := mX11_needs) (pc := 1) dX11_needs_1 rfl rfl rfl ?_
  refine r_getR (μ := mX11_needs) (pc := 2) dX11_needs_2 fpX11_36 rfl (hF _ _ rfl) (by decide) (hB _ _ _ rfl) ?_
  refine r_getI (μ := mX11_needs) (pc := 5) dX11_needs_5 fpX11_98 rfl (hF _ _ rfl) (by decide) ?_
  refine sP2 (μ := mX11_needs) (pc := 8) (μ2 := mX11_within) dX11_needs_8 lkX11_93 stX11_within mwX11_within (Nat.le_of_ble_eq_true rfl) (k_within hR.en (by omega)) ?_
  refine r_if_eq (μ := mX11_needs) (pc := 11) (tgt := 33) dX11_needs_11 (by decide) (fun h_11 => absurd h_11 (b2i_ne (inR_nI hx (by omega)))) (fun h_11 => ?_)
  refine r_iload_n (μ := mX11_needs) (pc := 14) dX11_needs_14 rfl rfl ?_
  refine r_aload_n (μ := mX11_needs) (pc := 15) dX11_needs_15 rfl rfl rfl ?_
  refine r_getR (μ := mX11_needs) (pc := 16) dX11_needs_16 fpX11_36 rfl (hF _ _ rfl) (by decide) (hB _ _ _ rfl) ?_
  refine r_getI (μ := mX11_needs) (pc := 19) dX11_needs_19 fpX11_98 rfl (hF _ _ rfl) (by decide) ?_
  refine sP2 (μ := mX11_needs) (pc := 22) (μ2 := mX11_within) dX11_needs_22 lkX11_93 stX11_within mwX11_within (Nat.le_of_ble_eq_true rfl) (k_within hR.en (by omega)) ?_
  refine r_if_eq (μ := mX11_needs) (pc := 25) (tgt := 33) dX11_needs_25 (by decide) (fun h_25 => absurd h_25 (b2i_ne (inR_nI hy (by omega)))) (fun h_25 => ?_)
  refine r_iload_n (μ := mX11_needs) (pc := 28) dX11_needs_28 rfl rfl ?_
  refine r_iload_n (μ := mX11_needs) (pc := 29) dX11_needs_29 rfl rfl ?_
  refine r_icmp_ne (μ := mX11_needs) (pc := 30) (tgt := 36) dX11_needs_30 (by decide) (fun h_30 => ?_) (fun h_30 => absurd h_30 (fun z => hxy ((nI_eq (by omega) (by omega)).mp z)))
  refine r_aload_n (μ := mX11_needs) (pc := 36) dX11_needs_36 rfl rfl rfl ?_
  refine r_getR (μ := mX11_needs) (pc := 37) dX11_needs_37 fpX11_36 rfl (hF _ _ rfl) (by decide) (hB _ _ _ rfl) ?_
  refine r_iload_n (μ := mX11_needs) (pc := 40) dX11_needs_40 rfl rfl ?_
  refine r_iload_n (μ := mX11_needs) (pc := 41) dX11_needs_41 rfl rfl ?_
  refine vX2 (μ := mX11_needs) (pc := 42) (c0 := 9) (q0 := (RX9, TX9, 20)) (μ2 := mX9_lengthBetween) dX11_needs_42 (hF _ _ rfl) rfl lkX11_183 imX9_lengthBetween seX9_X9_lengthBetween_X9_lengthBetween mwX9_lengthBetween (Nat.le_of_ble_eq_true rfl) (k_lengthBetween hT (by decide) hR hI hx hy) (fun r_42 mi_42 h_42 => ?_)
  obtain ⟨rfl, h42⟩ := h_42
  exact r_iret (μ := mX11_needs) (pc := 45) dX11_needs_45 rfl rfl (PX_i ⟨rfl, h42⟩)

theorem k_person_bad {d : Nat} {sh : List Sh} {mi : MI} {mr : MR} (hF : SHC sh) (hB : CB mr) {s : Rw} {n m p q : Nat} (hR : RT sh mi mr 8 s n m p q) (hI : Inv s n m p q) {x w : Int32} (hb : ¬ (inR x n = true ∧ inB w 0 99 = true)) : CP (d + 1) mX11_person [.ref 0, .int x, .int w] sh mi mr 0 0 (PI (BADc) sh mi mr) := by
  have hn10 := hI.n10; have hm8 := hI.m8; have hp6 := hI.p6; have hq14 := hI.q14
  have hT := TB.of hF hB (Or.inl rfl)
  refine CP.of (L := [_, _, _]) (by decide) rfl rfl (Nat.le_of_ble_eq_true rfl) ?_
  refine r_iload_n (μ := mX11_person) (pc := 0) dX11_person_0 rfl rfl ?_
  refine r_aload_n (μ := mX11_person) (pc := 1) dX11_person_1 rfl rfl rfl ?_
  refine r_getR (μ := mX11_person) (pc := 2) dX11_person_2 fpX11_36 rfl (hF _ _ rfl) (by decide) (hB _ _ _ rfl) ?_
  refine r_getI (μ := mX11_person) (pc := 5) dX11_person_5 fpX11_98 rfl (hF _ _ rfl) (by decide) ?_
  refine sP2 (μ := mX11_person) (pc := 8) (μ2 := mX11_within) dX11_person_8 lkX11_93 stX11_within mwX11_within (Nat.le_of_ble_eq_true rfl) (k_within hR.en (by omega)) ?_
  refine r_if_eq (μ := mX11_person) (pc := 11) (tgt := 23) dX11_person_11 (by decide) (fun h_11 => ?_) (fun h_11 => ?_)
  · have h_11 := b2i_0 h_11
    refine r_ldc (μ := mX11_person) (pc := 23) dX11_person_23 ctX11_97 ?_
    exact r_iret (μ := mX11_person) (pc := 25) dX11_person_25 rfl rfl (PI_i rfl)
  · have h_11 := b2i_1 h_11
    refine r_iload_n (μ := mX11_person) (pc := 14) dX11_person_14 rfl rfl ?_
    refine r_bipush (μ := mX11_person) (pc := 15) (v := 100) dX11_person_15 bp_100 ?_
    refine sP2 (μ := mX11_person) (pc := 17) (μ2 := mX11_within) dX11_person_17 lkX11_93 stX11_within mwX11_within (Nat.le_of_ble_eq_true rfl) (k_within (n := 100) rfl (by decide)) ?_
    rw [inR_B _ 99]
    refine r_if_ne (μ := mX11_person) (pc := 20) (tgt := 26) dX11_person_20 (by decide) (fun h_20 => ?_) (fun h_20 => ?_)
    · have h_20 := b2i_1 h_20
      exact absurd ⟨h_11, h_20⟩ hb
    · have h_20 := b2i_0 h_20
      refine r_ldc (μ := mX11_person) (pc := 23) dX11_person_23 ctX11_97 ?_
      exact r_iret (μ := mX11_person) (pc := 25) dX11_person_25 rfl rfl (PI_i rfl)

theorem k_person_full {d : Nat} {sh : List Sh} {mi : MI} {mr : MR} (hF : SHC sh) (hB : CB mr) {s : Rw} {n m p q : Nat} (hR : RT sh mi mr 8 s n m p q) (hI : Inv s n m p q) {x w : Int32} (h1 : inR x n = true) (h2 : inB w 0 99 = true) (hp : p = 6) : CP (d + 1) mX11_person [.ref 0, .int x, .int w] sh mi mr 0 0 (PI (FULLc) sh mi mr) := by
  have hn10 := hI.n10; have hm8 := hI.m8; have hp6 := hI.p6; have hq14 := hI.q14
  have hT := TB.of hF hB (Or.inl rfl)
  refine CP.of (L := [_, _, _]) (by decide) rfl rfl (Nat.le_of_ble_eq_true rfl) ?_
  refine r_iload_n (μ := mX11_person) (pc := 0) dX11_person_0 rfl rfl ?_
  refine r_aload_n (μ := mX11_person) (pc := 1) dX11_person_1 rfl rfl rfl ?_
  refine r_getR (μ := mX11_person) (pc := 2) dX11_person_2 fpX11_36 rfl (hF _ _ rfl) (by decide) (hB _ _ _ rfl) ?_
  refine r_getI (μ := mX11_person) (pc := 5) dX11_person_5 fpX11_98 rfl (hF _ _ rfl) (by decide) ?_
  refine sP2 (μ := mX11_person) (pc := 8) (μ2 := mX11_within) dX11_person_8 lkX11_93 stX11_within mwX11_within (Nat.le_of_ble_eq_true rfl) (k_within hR.en (by omega)) ?_
  refine r_if_eq (μ := mX11_person) (pc := 11) (tgt := 23) dX11_person_11 (by decide) (fun h_11 => absurd h_11 (b2i_ne h1)) (fun h_11 => ?_)
  refine r_iload_n (μ := mX11_person) (pc := 14) dX11_person_14 rfl rfl ?_
  refine r_bipush (μ := mX11_person) (pc := 15) (v := 100) dX11_person_15 bp_100 ?_
  refine sP2 (μ := mX11_person) (pc := 17) (μ2 := mX11_within) dX11_person_17 lkX11_93 stX11_within mwX11_within (Nat.le_of_ble_eq_true rfl) (k_within (n := 100) rfl (by decide)) ?_
  rw [inR_B _ 99]
  refine r_if_ne (μ := mX11_person) (pc := 20) (tgt := 26) dX11_person_20 (by decide) (fun h_20 => ?_) (fun h_20 => absurd h_20 (b2i_ne h2))
  refine r_aload_n (μ := mX11_person) (pc := 26) dX11_person_26 rfl rfl rfl ?_
  refine r_getR (μ := mX11_person) (pc := 27) dX11_person_27 fpX11_36 rfl (hF _ _ rfl) (by decide) (hB _ _ _ rfl) ?_
  refine r_getI (μ := mX11_person) (pc := 30) dX11_person_30 fpX11_186 rfl (hF _ _ rfl) (by decide) ?_
  refine r_bipush (μ := mX11_person) (pc := 33) (v := 6) dX11_person_33 bp_6 ?_
  refine r_icmp_lt (μ := mX11_person) (pc := 35) (tgt := 41) dX11_person_35 (by decide) (fun h_35 => absurd h_35 (by rw [hR.ep, hp]; decide)) (fun h_35 => ?_)
  refine r_ldc (μ := mX11_person) (pc := 38) dX11_person_38 ctX11_101 ?_
  exact r_iret (μ := mX11_person) (pc := 40) dX11_person_40 rfl rfl (PI_i rfl)

theorem k_person {d : Nat} {sh : List Sh} {mi : MI} {mr : MR} (hF : SHC sh) (hB : CB mr) {s : Rw} {n m p q : Nat} (hR : RT sh mi mr 8 s n m p q) (hI : Inv s n m p q) {x w : Int32} (h1 : inR x n = true) (h2 : inB w 0 99 = true) (hp : p < 6) : CP (d + 1) mX11_person [.ref 0, .int x, .int w] sh mi mr 0 0 (PX sh mr (fun r mi2 => r = nI p ∧ mi2 = upI (upI (upI mi 15 p x) 16 p w) 8 10 (nI (p + 1)))) := by
  have hn10 := hI.n10; have hm8 := hI.m8; have hp6 := hI.p6; have hq14 := hI.q14
  have hT := TB.of hF hB (Or.inl rfl)
  refine CP.of (L := [_, _, _]) (by decide) rfl rfl (Nat.le_of_ble_eq_true rfl) ?_
  refine r_iload_n (μ := mX11_person) (pc := 0) dX11_person_0 rfl rfl ?_
  refine r_aload_n (μ := mX11_person) (pc := 1) dX11_person_1 rfl rfl rfl ?_
  refine r_getR (μ := mX11_person) (pc := 2) dX11_person_2 fpX11_36 rfl (hF _ _ rfl) (by decide) (hB _ _ _ rfl) ?_
  refine r_getI (μ := mX11_person) (pc := 5) dX11_person_5 fpX11_98 rfl (hF _ _ rfl) (by decide) ?_
  refine sP2 (μ := mX11_person) (pc := 8) (μ2 := mX11_within) dX11_person_8 lkX11_93 stX11_within mwX11_within (Nat.le_of_ble_eq_true rfl) (k_within hR.en (by omega)) ?_
  refine r_if_eq (μ := mX11_person) (pc := 11) (tgt := 23) dX11_person_11 (by decide) (fun h_11 => absurd h_11 (b2i_ne h1)) (fun h_11 => ?_)
  refine r_iload_n (μ := mX11_person) (pc := 14) dX11_person_14 rfl rfl ?_
  refine r_bipush (μ := mX11_person) (pc := 15) (v := 100) dX11_person_15 bp_100 ?_
  refine sP2 (μ := mX11_person) (pc := 17) (μ2 := mX11_within) dX11_person_17 lkX11_93 stX11_within mwX11_within (Nat.le_of_ble_eq_true rfl) (k_within (n := 100) rfl (by decide)) ?_
  rw [inR_B _ 99]
  refine r_if_ne (μ := mX11_person) (pc := 20) (tgt := 26) dX11_person_20 (by decide) (fun h_20 => ?_) (fun h_20 => absurd h_20 (b2i_ne h2))
  refine r_aload_n (μ := mX11_person) (pc := 26) dX11_person_26 rfl rfl rfl ?_
  refine r_getR (μ := mX11_person) (pc := 27) dX11_person_27 fpX11_36 rfl (hF _ _ rfl) (by decide) (hB _ _ _ rfl) ?_
  refine r_getI (μ := mX11_person) (pc := 30) dX11_person_30 fpX11_186 rfl (hF _ _ rfl) (by decide) ?_
  refine r_bipush (μ := mX11_person) (pc := 33) (v := 6) dX11_person_33 bp_6 ?_
  refine r_icmp_lt (μ := mX11_person) (pc := 35) (tgt := 41) dX11_person_35 (by decide) (fun h_35 => ?_) (fun h_35 => absurd (by rw [hR.ep]; exact nI_lt (b := 6) hp (by decide)) h_35)
  refine r_aload_n (μ := mX11_person) (pc := 41) dX11_person_41 rfl rfl rfl ?_
  refine r_getR (μ := mX11_person) (pc := 42) dX11_person_42 fpX11_36 rfl (hF _ _ rfl) (by decide) (hB _ _ _ rfl) ?_
  refine r_iload_n (μ := mX11_person) (pc := 45) dX11_person_45 rfl rfl ?_
  refine r_iload_n (μ := mX11_person) (pc := 46) dX11_person_46 rfl rfl ?_
  refine vX2 (μ := mX11_person) (pc := 47) (c0 := 9) (q0 := (RX9, TX9, 20)) (μ2 := mX9_addPerson) dX11_person_47 (hF _ _ rfl) rfl lkX11_189 imX9_addPerson seX9_X9_addPerson_X9_addPerson mwX9_addPerson (Nat.le_of_ble_eq_true rfl) (k_addPerson hT hR.ep hp) (fun r_47 mi_47 h_47 => ?_)
  obtain ⟨rfl, rfl⟩ := h_47
  exact r_iret (μ := mX11_person) (pc := 50) dX11_person_50 rfl rfl (PX_i ⟨rfl, rfl⟩)

theorem k_personTold_bad {d : Nat} {sh : List Sh} {mi : MI} {mr : MR} (hF : SHC sh) (hB : CB mr) {s : Rw} {n m p q : Nat} (hR : RT sh mi mr 8 s n m p q) (hI : Inv s n m p q) {x w : Int32} (hb : ¬ (inR x p = true ∧ inB w 0 1 = true)) : CP (d + 1) mX11_personTold [.ref 0, .int x, .int w] sh mi mr 0 0 (PI (BADc) sh mi mr) := by
  have hn10 := hI.n10; have hm8 := hI.m8; have hp6 := hI.p6; have hq14 := hI.q14
  have hT := TB.of hF hB (Or.inl rfl)
  refine CP.of (L := [_, _, _]) (by decide) rfl rfl (Nat.le_of_ble_eq_true rfl) ?_
  refine r_iload_n (μ := mX11_personTold) (pc := 0) dX11_personTold_0 rfl rfl ?_
  refine r_aload_n (μ := mX11_personTold) (pc := 1) dX11_personTold_1 rfl rfl rfl ?_
  refine r_getR (μ := mX11_personTold) (pc := 2) dX11_personTold_2 fpX11_36 rfl (hF _ _ rfl) (by decide) (hB _ _ _ rfl) ?_
  refine r_getI (μ := mX11_personTold) (pc := 5) dX11_personTold_5 fpX11_186 rfl (hF _ _ rfl) (by decide) ?_
  refine sP2 (μ := mX11_personTold) (pc := 8) (μ2 := mX11_within) dX11_personTold_8 lkX11_93 stX11_within mwX11_within (Nat.le_of_ble_eq_true rfl) (k_within hR.ep (by omega)) ?_
  refine r_if_ne (μ := mX11_personTold) (pc := 11) (tgt := 17) dX11_personTold_11 (by decide) (fun h_11 => ?_) (fun h_11 => ?_)
  · have h_11 := b2i_1 h_11
    have hw3 : ¬ inB w 0 1 = true := fun z => hb ⟨h_11, z⟩
    have hw4 : ¬ w.toInt = 0 ∧ ¬ w.toInt = 1 := by unfold inB at hw3; simp only [decide_eq_true_eq] at hw3; omega
    refine r_iload_n (μ := mX11_personTold) (pc := 17) dX11_personTold_17 rfl rfl ?_
    refine r_look (μ := mX11_personTold) (pc := 18) (off := 46) (tgt := 64) dX11_personTold_18 (by decide) (by simp [Op.lookupswitch.offset, Ne.symm hw4.1, Ne.symm hw4.2]) (by decide) ?_
    refine r_ldc (μ := mX11_personTold) (pc := 64) dX11_personTold_64 ctX11_97 ?_
    exact r_iret (μ := mX11_personTold) (pc := 66) dX11_personTold_66 rfl rfl (PI_i rfl)
  · have h_11 := b2i_0 h_11
    refine r_ldc (μ := mX11_personTold) (pc := 14) dX11_personTold_14 ctX11_97 ?_
    exact r_iret (μ := mX11_personTold) (pc := 16) dX11_personTold_16 rfl rfl (PI_i rfl)

theorem k_personTold {d : Nat} {sh : List Sh} {mi : MI} {mr : MR} (hF : SHC sh) (hB : CB mr) {s : Rw} {n m p q : Nat} (hR : RT sh mi mr 8 s n m p q) (hI : Inv s n m p q) {i w : Nat} (hi : i < p) (hw : w < 2) : CP (d + 1) mX11_personTold [.ref 0, .int (nI i), .int (nI w)] sh mi mr 0 0 (PI (s (68 + 2 * i + w)) sh mi mr) := by
  have hn10 := hI.n10; have hm8 := hI.m8; have hp6 := hI.p6; have hq14 := hI.q14
  have hT := TB.of hF hB (Or.inl rfl)
  have hw2 : w = 0 ∨ w = 1 := by omega
  refine CP.of (L := [_, _, _]) (by decide) rfl rfl (Nat.le_of_ble_eq_true rfl) ?_
  refine r_iload_n (μ := mX11_personTold) (pc := 0) dX11_personTold_0 rfl rfl ?_
  refine r_aload_n (μ := mX11_personTold) (pc := 1) dX11_personTold_1 rfl rfl rfl ?_
  refine r_getR (μ := mX11_personTold) (pc := 2) dX11_personTold_2 fpX11_36 rfl (hF _ _ rfl) (by decide) (hB _ _ _ rfl) ?_
  refine r_getI (μ := mX11_personTold) (pc := 5) dX11_personTold_5 fpX11_186 rfl (hF _ _ rfl) (by decide) ?_
  refine sP2 (μ := mX11_personTold) (pc := 8) (μ2 := mX11_within) dX11_personTold_8 lkX11_93 stX11_within mwX11_within (Nat.le_of_ble_eq_true rfl) (k_within hR.ep (by omega)) ?_
  refine r_if_ne (μ := mX11_personTold) (pc := 11) (tgt := 17) dX11_personTold_11 (by decide) (fun h_11 => ?_) (fun h_11 => absurd h_11 (b2i_ne (inR_nI hi (by omega))))
  refine r_iload_n (μ := mX11_personTold) (pc := 17) dX11_personTold_17 rfl rfl ?_
  rcases hw2 with rfl | rfl
  · refine r_look (μ := mX11_personTold) (pc := 18) (tgt := 44) dX11_personTold_18 (by decide) rfl (by decide) ?_
    refine r_aload_n (μ := mX11_personTold) (pc := 44) dX11_personTold_44 rfl rfl rfl ?_
    refine r_getR (μ := mX11_personTold) (pc := 45) dX11_personTold_45 fpX11_36 rfl (hF _ _ rfl) (by decide) (hB _ _ _ rfl) ?_
    refine r_getR (μ := mX11_personTold) (pc := 48) dX11_personTold_48 fpX11_192 rfl (hF _ _ rfl) (by decide) (hB _ _ _ rfl) ?_
    refine r_iload_n (μ := mX11_personTold) (pc := 51) dX11_personTold_51 rfl rfl ?_
    refine r_iaload (μ := mX11_personTold) (pc := 52) (j := i) dX11_personTold_52 (hF _ _ rfl) rfl (by omega) (by decide) ?_
    rw [hR.sp hi]
    exact r_iret (μ := mX11_personTold) (pc := 53) dX11_personTold_53 rfl rfl (PI_i rfl)
  · refine r_look (μ := mX11_personTold) (pc := 18) (tgt := 54) dX11_personTold_18 (by decide) rfl (by decide) ?_
    refine r_aload_n (μ := mX11_personTold) (pc := 54) dX11_personTold_54 rfl rfl rfl ?_
    refine r_getR (μ := mX11_personTold) (pc := 55) dX11_personTold_55 fpX11_36 rfl (hF _ _ rfl) (by decide) (hB _ _ _ rfl) ?_
    refine r_getR (μ := mX11_personTold) (pc := 58) dX11_personTold_58 fpX11_195 rfl (hF _ _ rfl) (by decide) (hB _ _ _ rfl) ?_
    refine r_iload_n (μ := mX11_personTold) (pc := 61) dX11_personTold_61 rfl rfl ?_
    refine r_iaload (μ := mX11_personTold) (pc := 62) (j := i) dX11_personTold_62 (hF _ _ rfl) rfl (by omega) (by decide) ?_
    rw [hR.sg hi]
    exact r_iret (μ := mX11_personTold) (pc := 63) dX11_personTold_63 rfl rfl (PI_i rfl)

theorem k_set_bad {d : Nat} {sh : List Sh} {mi : MI} {mr : MR} (hF : SHC sh) (hB : CB mr) {s : Rw} {n m p q : Nat} (hR : RT sh mi mr 8 s n m p q) (hI : Inv s n m p q) {x w v : Int32} (hb : ¬ (inR x p = true ∧ ((w = 0 ∧ inR v n = true) ∨ (w = 1 ∧ inB v 0 99 = true)))) : CP (d + 1) mX11_set [.ref 0, .int x, .int w, .int v] sh mi mr 0 0 (PI (BADc) sh mi mr) := by
  have hn10 := hI.n10; have hm8 := hI.m8; have hp6 := hI.p6; have hq14 := hI.q14
  have hT := TB.of hF hB (Or.inl rfl)
  refine CP.of (L := [_, _, _, _]) (by decide) rfl rfl (Nat.le_of_ble_eq_true rfl) ?_
  refine r_iload_n (μ := mX11_set) (pc := 0) dX11_set_0 rfl rfl ?_
  refine r_aload_n (μ := mX11_set) (pc := 1) dX11_set_1 rfl rfl rfl ?_
  refine r_getR (μ := mX11_set) (pc := 2) dX11_set_2 fpX11_36 rfl (hF _ _ rfl) (by decide) (hB _ _ _ rfl) ?_
  refine r_getI (μ := mX11_set) (pc := 5) dX11_set_5 fpX11_186 rfl (hF _ _ rfl) (by decide) ?_
  refine sP2 (μ := mX11_set) (pc := 8) (μ2 := mX11_within) dX11_set_8 lkX11_93 stX11_within mwX11_within (Nat.le_of_ble_eq_true rfl) (k_within hR.ep (by omega)) ?_
  refine r_if_eq (μ := mX11_set) (pc := 11) (tgt := 22) dX11_set_11 (by decide) (fun h_11 => ?_) (fun h_11 => ?_)
  · have h_11 := b2i_0 h_11
    refine r_ldc (μ := mX11_set) (pc := 22) dX11_set_22 ctX11_97 ?_
    exact r_iret (μ := mX11_set) (pc := 24) dX11_set_24 rfl rfl (PI_i rfl)
  · have h_11 := b2i_1 h_11
    refine r_iload_n (μ := mX11_set) (pc := 14) dX11_set_14 rfl rfl ?_
    refine r_iconst (μ := mX11_set) (pc := 15) (v := 2) dX11_set_15 ic_2 ?_
    refine sP2 (μ := mX11_set) (pc := 16) (μ2 := mX11_within) dX11_set_16 lkX11_93 stX11_within mwX11_within (Nat.le_of_ble_eq_true rfl) (k_within (n := 2) rfl (by decide)) ?_
    rw [inR_B _ 1]
    refine r_if_ne (μ := mX11_set) (pc := 19) (tgt := 25) dX11_set_19 (by decide) (fun h_19 => ?_) (fun h_19 => ?_)
    · have h_19 := b2i_1 h_19
      refine r_iload_n (μ := mX11_set) (pc := 25) dX11_set_25 rfl rfl ?_
      refine r_iload_n (μ := mX11_set) (pc := 26) dX11_set_26 rfl rfl ?_
      refine r_if_ne (μ := mX11_set) (pc := 27) (tgt := 40) dX11_set_27 (by decide) (fun h_27 => ?_) (fun h_27 => ?_)
      · refine r_bipush (μ := mX11_set) (pc := 40) (v := 100) dX11_set_40 bp_100 ?_
        refine sP2 (μ := mX11_set) (pc := 42) (μ2 := mX11_within) dX11_set_42 lkX11_93 stX11_within mwX11_within (Nat.le_of_ble_eq_true rfl) (k_within (n := 100) rfl (by decide)) ?_
        rw [inR_B _ 99]
        refine r_if_ne (μ := mX11_set) (pc := 45) (tgt := 51) dX11_set_45 (by decide) (fun h_45 => ?_) (fun h_45 => ?_)
        · have h_45 := b2i_1 h_45
          obtain ⟨j, hj, rfl⟩ := inB_of (hi := 1) h_19
          have hj1 : j = 1 := by rcases Nat.lt_or_ge j 1 with z | z; (· exact absurd (by rw [show j = 0 by omega]; rfl) h_27); (· omega)
          exact absurd ⟨h_11, Or.inr ⟨by rw [hj1]; rfl, h_45⟩⟩ hb
        · have h_45 := b2i_0 h_45
          refine r_ldc (μ := mX11_set) (pc := 48) dX11_set_48 ctX11_97 ?_
          exact r_iret (μ := mX11_set) (pc := 50) dX11_set_50 rfl rfl (PI_i rfl)
      · refine r_aload_n (μ := mX11_set) (pc := 30) dX11_set_30 rfl rfl rfl ?_
        refine r_getR (μ := mX11_set) (pc := 31) dX11_set_31 fpX11_36 rfl (hF _ _ rfl) (by decide) (hB _ _ _ rfl) ?_
        refine r_getI (μ := mX11_set) (pc := 34) dX11_set_34 fpX11_98 rfl (hF _ _ rfl) (by decide) ?_
        refine r_goto (μ := mX11_set) (pc := 37) (tgt := 42) dX11_set_37 (by decide) ?_
        refine sP2 (μ := mX11_set) (pc := 42) (μ2 := mX11_within) dX11_set_42 lkX11_93 stX11_within mwX11_within (Nat.le_of_ble_eq_true rfl) (k_within hR.en (by omega)) ?_
        refine r_if_ne (μ := mX11_set) (pc := 45) (tgt := 51) dX11_set_45 (by decide) (fun h_45 => ?_) (fun h_45 => ?_)
        · have h_45 := b2i_1 h_45
          exact absurd ⟨h_11, Or.inl ⟨h_27, h_45⟩⟩ hb
        · have h_45 := b2i_0 h_45
          refine r_ldc (μ := mX11_set) (pc := 48) dX11_set_48 ctX11_97 ?_
          exact r_iret (μ := mX11_set) (pc := 50) dX11_set_50 rfl rfl (PI_i rfl)
    · have h_19 := b2i_0 h_19
      refine r_ldc (μ := mX11_set) (pc := 22) dX11_set_22 ctX11_97 ?_
      exact r_iret (μ := mX11_set) (pc := 24) dX11_set_24 rfl rfl (PI_i rfl)

theorem k_set0 {d : Nat} {sh : List Sh} {mi : MI} {mr : MR} (hF : SHC sh) (hB : CB mr) {s : Rw} {n m p q : Nat} (hR : RT sh mi mr 8 s n m p q) (hI : Inv s n m p q) {i : Nat} {v : Int32} (hi : i < p) (hv : inR v n = true) : CP (d + 1) mX11_set [.ref 0, .int (nI i), .int 0, .int v] sh mi mr 0 0 (PX sh mr (fun r mi2 => r = s (68 + 2 * i + 0) ∧ mi2 = upI mi 15 i v)) := by
  have hn10 := hI.n10; have hm8 := hI.m8; have hp6 := hI.p6; have hq14 := hI.q14
  have hT := TB.of hF hB (Or.inl rfl)
  refine CP.of (L := [_, _, _, _]) (by decide) rfl rfl (Nat.le_of_ble_eq_true rfl) ?_
  refine r_iload_n (μ := mX11_set) (pc := 0) dX11_set_0 rfl rfl ?_
  refine r_aload_n (μ := mX11_set) (pc := 1) dX11_set_1 rfl rfl rfl ?_
  refine r_getR (μ := mX11_set) (pc := 2) dX11_set_2 fpX11_36 rfl (hF _ _ rfl) (by decide) (hB _ _ _ rfl) ?_
  refine r_getI (μ := mX11_set) (pc := 5) dX11_set_5 fpX11_186 rfl (hF _ _ rfl) (by decide) ?_
  refine sP2 (μ := mX11_set) (pc := 8) (μ2 := mX11_within) dX11_set_8 lkX11_93 stX11_within mwX11_within (Nat.le_of_ble_eq_true rfl) (k_within hR.ep (by omega)) ?_
  refine r_if_eq (μ := mX11_set) (pc := 11) (tgt := 22) dX11_set_11 (by decide) (fun h_11 => absurd h_11 (b2i_ne (inR_nI hi (by omega)))) (fun h_11 => ?_)
  refine r_iload_n (μ := mX11_set) (pc := 14) dX11_set_14 rfl rfl ?_
  refine r_iconst (μ := mX11_set) (pc := 15) (v := 2) dX11_set_15 ic_2 ?_
  refine sP2 (μ := mX11_set) (pc := 16) (μ2 := mX11_within) dX11_set_16 lkX11_93 stX11_within mwX11_within (Nat.le_of_ble_eq_true rfl) (k_within (n := 2) rfl (by decide)) ?_
  rw [inR_B _ 1]
  refine r_if_ne (μ := mX11_set) (pc := 19) (tgt := 25) dX11_set_19 (by decide) (fun h_19 => ?_) (fun h_19 => absurd h_19 (by decide))
  refine r_iload_n (μ := mX11_set) (pc := 25) dX11_set_25 rfl rfl ?_
  refine r_iload_n (μ := mX11_set) (pc := 26) dX11_set_26 rfl rfl ?_
  refine r_if_ne (μ := mX11_set) (pc := 27) (tgt := 40) dX11_set_27 (by decide) (fun h_27 => absurd rfl h_27) (fun h_27 => ?_)
  refine r_aload_n (μ := mX11_set) (pc := 30) dX11_set_30 rfl rfl rfl ?_
  refine r_getR (μ := mX11_set) (pc := 31) dX11_set_31 fpX11_36 rfl (hF _ _ rfl) (by decide) (hB _ _ _ rfl) ?_
  refine r_getI (μ := mX11_set) (pc := 34) dX11_set_34 fpX11_98 rfl (hF _ _ rfl) (by decide) ?_
  refine r_goto (μ := mX11_set) (pc := 37) (tgt := 42) dX11_set_37 (by decide) ?_
  refine sP2 (μ := mX11_set) (pc := 42) (μ2 := mX11_within) dX11_set_42 lkX11_93 stX11_within mwX11_within (Nat.le_of_ble_eq_true rfl) (k_within hR.en (by omega)) ?_
  refine r_if_ne (μ := mX11_set) (pc := 45) (tgt := 51) dX11_set_45 (by decide) (fun h_45 => ?_) (fun h_45 => absurd h_45 (b2i_ne hv))
  refine r_iload_n (μ := mX11_set) (pc := 51) dX11_set_51 rfl rfl ?_
  refine r_if_ne (μ := mX11_set) (pc := 52) (tgt := 65) dX11_set_52 (by decide) (fun h_52 => absurd rfl h_52) (fun h_52 => ?_)
  refine r_aload_n (μ := mX11_set) (pc := 55) dX11_set_55 rfl rfl rfl ?_
  refine r_getR (μ := mX11_set) (pc := 56) dX11_set_56 fpX11_36 rfl (hF _ _ rfl) (by decide) (hB _ _ _ rfl) ?_
  refine r_getR (μ := mX11_set) (pc := 59) dX11_set_59 fpX11_192 rfl (hF _ _ rfl) (by decide) (hB _ _ _ rfl) ?_
  refine r_goto (μ := mX11_set) (pc := 62) (tgt := 72) dX11_set_62 (by decide) ?_
  refine r_iload_n (μ := mX11_set) (pc := 72) dX11_set_72 rfl rfl ?_
  refine r_iload_n (μ := mX11_set) (pc := 73) dX11_set_73 rfl rfl ?_
  refine sX3 (μ := mX11_set) (pc := 74) (μ2 := mX11_exchange) dX11_set_74 lkX11_119 stX11_exchange mwX11_exchange (Nat.le_of_ble_eq_true rfl) (k_exchange (hF _ _ rfl) rfl (show i < 6 by omega) (by decide)) (fun r_74 mi_74 h_74 => ?_)
  obtain ⟨rfl, rfl⟩ := h_74
  exact r_iret (μ := mX11_set) (pc := 77) dX11_set_77 rfl rfl (PX_i ⟨hR.sp hi, rfl⟩)

theorem k_set1 {d : Nat} {sh : List Sh} {mi : MI} {mr : MR} (hF : SHC sh) (hB : CB mr) {s : Rw} {n m p q : Nat} (hR : RT sh mi mr 8 s n m p q) (hI : Inv s n m p q) {i : Nat} {v : Int32} (hi : i < p) (hv : inB v 0 99 = true) : CP (d + 1) mX11_set [.ref 0, .int (nI i), .int 1, .int v] sh mi mr 0 0 (PX sh mr (fun r mi2 => r = s (68 + 2 * i + 1) ∧ mi2 = upI mi 16 i v)) := by
  have hn10 := hI.n10; have hm8 := hI.m8; have hp6 := hI.p6; have hq14 := hI.q14
  have hT := TB.of hF hB (Or.inl rfl)
  refine CP.of (L := [_, _, _, _]) (by decide) rfl rfl (Nat.le_of_ble_eq_true rfl) ?_
  refine r_iload_n (μ := mX11_set) (pc := 0) dX11_set_0 rfl rfl ?_
  refine r_aload_n (μ := mX11_set) (pc := 1) dX11_set_1 rfl rfl rfl ?_
  refine r_getR (μ := mX11_set) (pc := 2) dX11_set_2 fpX11_36 rfl (hF _ _ rfl) (by decide) (hB _ _ _ rfl) ?_
  refine r_getI (μ := mX11_set) (pc := 5) dX11_set_5 fpX11_186 rfl (hF _ _ rfl) (by decide) ?_
  refine sP2 (μ := mX11_set) (pc := 8) (μ2 := mX11_within) dX11_set_8 lkX11_93 stX11_within mwX11_within (Nat.le_of_ble_eq_true rfl) (k_within hR.ep (by omega)) ?_
  refine r_if_eq (μ := mX11_set) (pc := 11) (tgt := 22) dX11_set_11 (by decide) (fun h_11 => absurd h_11 (b2i_ne (inR_nI hi (by omega)))) (fun h_11 => ?_)
  refine r_iload_n (μ := mX11_set) (pc := 14) dX11_set_14 rfl rfl ?_
  refine r_iconst (μ := mX11_set) (pc := 15) (v := 2) dX11_set_15 ic_2 ?_
  refine sP2 (μ := mX11_set) (pc := 16) (μ2 := mX11_within) dX11_set_16 lkX11_93 stX11_within mwX11_within (Nat.le_of_ble_eq_true rfl) (k_within (n := 2) rfl (by decide)) ?_
  rw [inR_B _ 1]
  refine r_if_ne (μ := mX11_set) (pc := 19) (tgt := 25) dX11_set_19 (by decide) (fun h_19 => ?_) (fun h_19 => absurd h_19 (by decide))
  refine r_iload_n (μ := mX11_set) (pc := 25) dX11_set_25 rfl rfl ?_
  refine r_iload_n (μ := mX11_set) (pc := 26) dX11_set_26 rfl rfl ?_
  refine r_if_ne (μ := mX11_set) (pc := 27) (tgt := 40) dX11_set_27 (by decide) (fun h_27 => ?_) (fun h_27 => absurd h_27 (by decide))
  refine r_bipush (μ := mX11_set) (pc := 40) (v := 100) dX11_set_40 bp_100 ?_
  refine sP2 (μ := mX11_set) (pc := 42) (μ2 := mX11_within) dX11_set_42 lkX11_93 stX11_within mwX11_within (Nat.le_of_ble_eq_true rfl) (k_within (n := 100) rfl (by decide)) ?_
  rw [inR_B _ 99]
  refine r_if_ne (μ := mX11_set) (pc := 45) (tgt := 51) dX11_set_45 (by decide) (fun h_45 => ?_) (fun h_45 => absurd h_45 (b2i_ne hv))
  refine r_iload_n (μ := mX11_set) (pc := 51) dX11_set_51 rfl rfl ?_
  refine r_if_ne (μ := mX11_set) (pc := 52) (tgt := 65) dX11_set_52 (by decide) (fun h_52 => ?_) (fun h_52 => absurd h_52 (by decide))
  refine r_aload_n (μ := mX11_set) (pc := 65) dX11_set_65 rfl rfl rfl ?_
  refine r_getR (μ := mX11_set) (pc := 66) dX11_set_66 fpX11_36 rfl (hF _ _ rfl) (by decide) (hB _ _ _ rfl) ?_
  refine r_getR (μ := mX11_set) (pc := 69) dX11_set_69 fpX11_195 rfl (hF _ _ rfl) (by decide) (hB _ _ _ rfl) ?_
  refine r_iload_n (μ := mX11_set) (pc := 72) dX11_set_72 rfl rfl ?_
  refine r_iload_n (μ := mX11_set) (pc := 73) dX11_set_73 rfl rfl ?_
  refine sX3 (μ := mX11_set) (pc := 74) (μ2 := mX11_exchange) dX11_set_74 lkX11_119 stX11_exchange mwX11_exchange (Nat.le_of_ble_eq_true rfl) (k_exchange (hF _ _ rfl) rfl (show i < 6 by omega) (by decide)) (fun r_74 mi_74 h_74 => ?_)
  obtain ⟨rfl, rfl⟩ := h_74
  exact r_iret (μ := mX11_set) (pc := 77) dX11_set_77 rfl rfl (PX_i ⟨hR.sg hi, rfl⟩)

theorem k_may_bad {d : Nat} {sh : List Sh} {mi : MI} {mr : MR} (hF : SHC sh) (hB : CB mr) {s : Rw} {n m p q : Nat} (hR : RT sh mi mr 8 s n m p q) (hI : Inv s n m p q) {x y : Int32} (hb : ¬ (inR x p = true ∧ inR y m = true)) : CP (d + 1) mX11_may [.ref 0, .int x, .int y] sh mi mr 0 0 (PI (BADc) sh mi mr) := by
  have hn10 := hI.n10; have hm8 := hI.m8; have hp6 := hI.p6; have hq14 := hI.q14
  have hT := TB.of hF hB (Or.inl rfl)
  refine CP.of (L := [_, _, _]) (by decide) rfl rfl (Nat.le_of_ble_eq_true rfl) ?_
  refine r_iload_n (μ := mX11_may) (pc := 0) dX11_may_0 rfl rfl ?_
  refine r_aload_n (μ := mX11_may) (pc := 1) dX11_may_1 rfl rfl rfl ?_
  refine r_getR (μ := mX11_may) (pc := 2) dX11_may_2 fpX11_36 rfl (hF _ _ rfl) (by decide) (hB _ _ _ rfl) ?_
  refine r_getI (μ := mX11_may) (pc := 5) dX11_may_5 fpX11_186 rfl (hF _ _ rfl) (by decide) ?_
  refine sP2 (μ := mX11_may) (pc := 8) (μ2 := mX11_within) dX11_may_8 lkX11_93 stX11_within mwX11_within (Nat.le_of_ble_eq_true rfl) (k_within hR.ep (by omega)) ?_
  refine r_if_eq (μ := mX11_may) (pc := 11) (tgt := 28) dX11_may_11 (by decide) (fun h_11 => ?_) (fun h_11 => ?_)
  · have h_11 := b2i_0 h_11
    refine r_ldc (μ := mX11_may) (pc := 28) dX11_may_28 ctX11_97 ?_
    exact r_iret (μ := mX11_may) (pc := 30) dX11_may_30 rfl rfl (PI_i rfl)
  · have h_11 := b2i_1 h_11
    refine r_iload_n (μ := mX11_may) (pc := 14) dX11_may_14 rfl rfl ?_
    refine r_aload_n (μ := mX11_may) (pc := 15) dX11_may_15 rfl rfl rfl ?_
    refine r_getR (μ := mX11_may) (pc := 16) dX11_may_16 fpX11_36 rfl (hF _ _ rfl) (by decide) (hB _ _ _ rfl) ?_
    refine r_getI (μ := mX11_may) (pc := 19) dX11_may_19 fpX11_139 rfl (hF _ _ rfl) (by decide) ?_
    refine sP2 (μ := mX11_may) (pc := 22) (μ2 := mX11_within) dX11_may_22 lkX11_93 stX11_within mwX11_within (Nat.le_of_ble_eq_true rfl) (k_within hR.em (by omega)) ?_
    refine r_if_ne (μ := mX11_may) (pc := 25) (tgt := 31) dX11_may_25 (by decide) (fun h_25 => ?_) (fun h_25 => ?_)
    · have h_25 := b2i_1 h_25
      exact absurd ⟨h_11, h_25⟩ hb
    · have h_25 := b2i_0 h_25
      refine r_ldc (μ := mX11_may) (pc := 28) dX11_may_28 ctX11_97 ?_
      exact r_iret (μ := mX11_may) (pc := 30) dX11_may_30 rfl rfl (PI_i rfl)

theorem k_may {d : Nat} {sh : List Sh} {mi : MI} {mr : MR} (hF : SHC sh) (hB : CB mr) {s : Rw} {n m p q : Nat} (hR : RT sh mi mr 8 s n m p q) (hI : Inv s n m p q) {i l : Nat} (hi : i < p) (hl : l < m) : CP (d + 6) mX11_may [.ref 0, .int (nI i), .int (nI l)] sh mi mr 0 0 (PX sh mr (fun r mi2 => r = b2i (maySt s p q i l) ∧ SP 19 mi mi2)) := by
  have hn10 := hI.n10; have hm8 := hI.m8; have hp6 := hI.p6; have hq14 := hI.q14
  have hT := TB.of hF hB (Or.inl rfl)
  refine CP.of (L := [_, _, _]) (by decide) rfl rfl (Nat.le_of_ble_eq_true rfl) ?_
  refine r_iload_n (μ := mX11_may) (pc := 0) dX11_may_0 rfl rfl ?_
  refine r_aload_n (μ := mX11_may) (pc := 1) dX11_may_1 rfl rfl rfl ?_
  refine r_getR (μ := mX11_may) (pc := 2) dX11_may_2 fpX11_36 rfl (hF _ _ rfl) (by decide) (hB _ _ _ rfl) ?_
  refine r_getI (μ := mX11_may) (pc := 5) dX11_may_5 fpX11_186 rfl (hF _ _ rfl) (by decide) ?_
  refine sP2 (μ := mX11_may) (pc := 8) (μ2 := mX11_within) dX11_may_8 lkX11_93 stX11_within mwX11_within (Nat.le_of_ble_eq_true rfl) (k_within hR.ep (by omega)) ?_
  refine r_if_eq (μ := mX11_may) (pc := 11) (tgt := 28) dX11_may_11 (by decide) (fun h_11 => absurd h_11 (b2i_ne (inR_nI hi (by omega)))) (fun h_11 => ?_)
  refine r_iload_n (μ := mX11_may) (pc := 14) dX11_may_14 rfl rfl ?_
  refine r_aload_n (μ := mX11_may) (pc := 15) dX11_may_15 rfl rfl rfl ?_
  refine r_getR (μ := mX11_may) (pc := 16) dX11_may_16 fpX11_36 rfl (hF _ _ rfl) (by decide) (hB _ _ _ rfl) ?_
  refine r_getI (μ := mX11_may) (pc := 19) dX11_may_19 fpX11_139 rfl (hF _ _ rfl) (by decide) ?_
  refine sP2 (μ := mX11_may) (pc := 22) (μ2 := mX11_within) dX11_may_22 lkX11_93 stX11_within mwX11_within (Nat.le_of_ble_eq_true rfl) (k_within hR.em (by omega)) ?_
  refine r_if_ne (μ := mX11_may) (pc := 25) (tgt := 31) dX11_may_25 (by decide) (fun h_25 => ?_) (fun h_25 => absurd h_25 (b2i_ne (inR_nI hl (by omega))))
  refine r_aload_n (μ := mX11_may) (pc := 31) dX11_may_31 rfl rfl rfl ?_
  refine r_getR (μ := mX11_may) (pc := 32) dX11_may_32 fpX11_36 rfl (hF _ _ rfl) (by decide) (hB _ _ _ rfl) ?_
  refine r_iload_n (μ := mX11_may) (pc := 35) dX11_may_35 rfl rfl ?_
  refine r_iload_n (μ := mX11_may) (pc := 36) dX11_may_36 rfl rfl ?_
  refine vX2 (μ := mX11_may) (pc := 37) (c0 := 9) (q0 := (RX9, TX9, 20)) (μ2 := mX9_canMove) dX11_may_37 (hF _ _ rfl) rfl lkX11_198 imX9_canMove seX9_X9_canMove_X9_canMove mwX9_canMove (Nat.le_of_ble_eq_true rfl) (k_canMove hT (by decide) hR hI hi hl) (fun r_37 mi_37 h_37 => ?_)
  obtain ⟨rfl, h37⟩ := h_37
  refine r_if_eq (μ := mX11_may) (pc := 40) (tgt := 47) dX11_may_40 (by decide) (fun h_40 => ?_) (fun h_40 => ?_)
  · have h_40 := b2i_0 h_40
    refine r_iconst (μ := mX11_may) (pc := 47) (v := 0) dX11_may_47 ic_0 ?_
    exact r_iret (μ := mX11_may) (pc := 48) dX11_may_48 rfl rfl (PX_i ⟨by rw [h_40]; rfl, h37⟩)
  · have h_40 := b2i_1 h_40
    refine r_iconst (μ := mX11_may) (pc := 43) (v := 1) dX11_may_43 ic_1 ?_
    refine r_goto (μ := mX11_may) (pc := 44) (tgt := 48) dX11_may_44 (by decide) ?_
    exact r_iret (μ := mX11_may) (pc := 48) dX11_may_48 rfl rfl (PX_i ⟨by rw [h_40]; rfl, h37⟩)

theorem k_move_bad {d : Nat} {sh : List Sh} {mi : MI} {mr : MR} (hF : SHC sh) (hB : CB mr) {s : Rw} {n m p q : Nat} (hR : RT sh mi mr 8 s n m p q) (hI : Inv s n m p q) {x y z : Int32} (hb : ¬ (inR x p = true ∧ inR y m = true ∧ inR z n = true)) : CP (d + 1) mX11_move [.ref 0, .int x, .int y, .int z] sh mi mr 0 0 (PI (BADc) sh mi mr) := by
  have hn10 := hI.n10; have hm8 := hI.m8; have hp6 := hI.p6; have hq14 := hI.q14
  have hT := TB.of hF hB (Or.inl rfl)
  refine CP.of (L := [_, _, _, _]) (by decide) rfl rfl (Nat.le_of_ble_eq_true rfl) ?_
  refine r_iload_n (μ := mX11_move) (pc := 0) dX11_move_0 rfl rfl ?_
  refine r_aload_n (μ := mX11_move) (pc := 1) dX11_move_1 rfl rfl rfl ?_
  refine r_getR (μ := mX11_move) (pc := 2) dX11_move_2 fpX11_36 rfl (hF _ _ rfl) (by decide) (hB _ _ _ rfl) ?_
  refine r_getI (μ := mX11_move) (pc := 5) dX11_move_5 fpX11_186 rfl (hF _ _ rfl) (by decide) ?_
  refine sP2 (μ := mX11_move) (pc := 8) (μ2 := mX11_within) dX11_move_8 lkX11_93 stX11_within mwX11_within (Nat.le_of_ble_eq_true rfl) (k_within hR.ep (by omega)) ?_
  refine r_if_eq (μ := mX11_move) (pc := 11) (tgt := 42) dX11_move_11 (by decide) (fun h_11 => ?_) (fun h_11 => ?_)
  · have h_11 := b2i_0 h_11
    refine r_ldc (μ := mX11_move) (pc := 42) dX11_move_42 ctX11_97 ?_
    exact r_iret (μ := mX11_move) (pc := 44) dX11_move_44 rfl rfl (PI_i rfl)
  · have h_11 := b2i_1 h_11
    refine r_iload_n (μ := mX11_move) (pc := 14) dX11_move_14 rfl rfl ?_
    refine r_aload_n (μ := mX11_move) (pc := 15) dX11_move_15 rfl rfl rfl ?_
    refine r_getR (μ := mX11_move) (pc := 16) dX11_move_16 fpX11_36 rfl (hF _ _ rfl) (by decide) (hB _ _ _ rfl) ?_
    refine r_getI (μ := mX11_move) (pc := 19) dX11_move_19 fpX11_139 rfl (hF _ _ rfl) (by decide) ?_
    refine sP2 (μ := mX11_move) (pc := 22) (μ2 := mX11_within) dX11_move_22 lkX11_93 stX11_within mwX11_within (Nat.le_of_ble_eq_true rfl) (k_within hR.em (by omega)) ?_
    refine r_if_eq (μ := mX11_move) (pc := 25) (tgt := 42) dX11_move_25 (by decide) (fun h_25 => ?_) (fun h_25 => ?_)
    · have h_25 := b2i_0 h_25
      refine r_ldc (μ := mX11_move) (pc := 42) dX11_move_42 ctX11_97 ?_
      exact r_iret (μ := mX11_move) (pc := 44) dX11_move_44 rfl rfl (PI_i rfl)
    · have h_25 := b2i_1 h_25
      refine r_iload_n (μ := mX11_move) (pc := 28) dX11_move_28 rfl rfl ?_
      refine r_aload_n (μ := mX11_move) (pc := 29) dX11_move_29 rfl rfl rfl ?_
      refine r_getR (μ := mX11_move) (pc := 30) dX11_move_30 fpX11_36 rfl (hF _ _ rfl) (by decide) (hB _ _ _ rfl) ?_
      refine r_getI (μ := mX11_move) (pc := 33) dX11_move_33 fpX11_98 rfl (hF _ _ rfl) (by decide) ?_
      refine sP2 (μ := mX11_move) (pc := 36) (μ2 := mX11_within) dX11_move_36 lkX11_93 stX11_within mwX11_within (Nat.le_of_ble_eq_true rfl) (k_within hR.en (by omega)) ?_
      refine r_if_ne (μ := mX11_move) (pc := 39) (tgt := 45) dX11_move_39 (by decide) (fun h_39 => ?_) (fun h_39 => ?_)
      · have h_39 := b2i_1 h_39
        exact absurd ⟨h_11, h_25, h_39⟩ hb
      · have h_39 := b2i_0 h_39
        refine r_ldc (μ := mX11_move) (pc := 42) dX11_move_42 ctX11_97 ?_
        exact r_iret (μ := mX11_move) (pc := 44) dX11_move_44 rfl rfl (PI_i rfl)

theorem k_move {d : Nat} {sh : List Sh} {mi : MI} {mr : MR} (hF : SHC sh) (hB : CB mr) {s : Rw} {n m p q : Nat} (hR : RT sh mi mr 8 s n m p q) (hI : Inv s n m p q) {i l : Nat} (hi : i < p) (hl : l < m) {x : Nat} (hx : x < n) : CP (d + 6) mX11_move [.ref 0, .int (nI i), .int (nI l), .int (nI x)] sh mi mr 0 0 (PX sh mr (fun r mi2 => if (maySt s p q i l = true ∧ ¬ tN s l = x ∧ rchS s q l x = true) then r = nI (tN s l) ∧ ∃ mi1, SP 19 mi mi1 ∧ mi2 = upI (upI mi1 8 9 (mi1 8 9 ||| 1 <<< (nI l &&& 31))) 14 l (nI x) else r = NOc ∧ SP 19 mi mi2)) := by
  have hn10 := hI.n10; have hm8 := hI.m8; have hp6 := hI.p6; have hq14 := hI.q14
  have hT := TB.of hF hB (Or.inl rfl)
  have et : tpp s l = nI (tN s l) := hI.t hl; have htn := hI.tn hl
  refine CP.of (L := [_, _, _, _]) (by decide) rfl rfl (Nat.le_of_ble_eq_true rfl) ?_
  refine r_iload_n (μ := mX11_move) (pc := 0) dX11_move_0 rfl rfl ?_
  refine r_aload_n (μ := mX11_move) (pc := 1) dX11_move_1 rfl rfl rfl ?_
  refine r_getR (μ := mX11_move) (pc := 2) dX11_move_2 fpX11_36 rfl (hF _ _ rfl) (by decide) (hB _ _ _ rfl) ?_
  refine r_getI (μ := mX11_move) (pc := 5) dX11_move_5 fpX11_186 rfl (hF _ _ rfl) (by decide) ?_
  refine sP2 (μ := mX11_move) (pc := 8) (μ2 := mX11_within) dX11_move_8 lkX11_93 stX11_within mwX11_within (Nat.le_of_ble_eq_true rfl) (k_within hR.ep (by omega)) ?_
  refine r_if_eq (μ := mX11_move) (pc := 11) (tgt := 42) dX11_move_11 (by decide) (fun h_11 => absurd h_11 (b2i_ne (inR_nI hi (by omega)))) (fun h_11 => ?_)
  refine r_iload_n (μ := mX11_move) (pc := 14) dX11_move_14 rfl rfl ?_
  refine r_aload_n (μ := mX11_move) (pc := 15) dX11_move_15 rfl rfl rfl ?_
  refine r_getR (μ := mX11_move) (pc := 16) dX11_move_16 fpX11_36 rfl (hF _ _ rfl) (by decide) (hB _ _ _ rfl) ?_
  refine r_getI (μ := mX11_move) (pc := 19) dX11_move_19 fpX11_139 rfl (hF _ _ rfl) (by decide) ?_
  refine sP2 (μ := mX11_move) (pc := 22) (μ2 := mX11_within) dX11_move_22 lkX11_93 stX11_within mwX11_within (Nat.le_of_ble_eq_true rfl) (k_within hR.em (by omega)) ?_
  refine r_if_eq (μ := mX11_move) (pc := 25) (tgt := 42) dX11_move_25 (by decide) (fun h_25 => absurd h_25 (b2i_ne (inR_nI hl (by omega)))) (fun h_25 => ?_)
  refine r_iload_n (μ := mX11_move) (pc := 28) dX11_move_28 rfl rfl ?_
  refine r_aload_n (μ := mX11_move) (pc := 29) dX11_move_29 rfl rfl rfl ?_
  refine r_getR (μ := mX11_move) (pc := 30) dX11_move_30 fpX11_36 rfl (hF _ _ rfl) (by decide) (hB _ _ _ rfl) ?_
  refine r_getI (μ := mX11_move) (pc := 33) dX11_move_33 fpX11_98 rfl (hF _ _ rfl) (by decide) ?_
  refine sP2 (μ := mX11_move) (pc := 36) (μ2 := mX11_within) dX11_move_36 lkX11_93 stX11_within mwX11_within (Nat.le_of_ble_eq_true rfl) (k_within hR.en (by omega)) ?_
  refine r_if_ne (μ := mX11_move) (pc := 39) (tgt := 45) dX11_move_39 (by decide) (fun h_39 => ?_) (fun h_39 => absurd h_39 (b2i_ne (inR_nI hx (by omega))))
  refine r_aload_n (μ := mX11_move) (pc := 45) dX11_move_45 rfl rfl rfl ?_
  refine r_getR (μ := mX11_move) (pc := 46) dX11_move_46 fpX11_36 rfl (hF _ _ rfl) (by decide) (hB _ _ _ rfl) ?_
  refine r_iload_n (μ := mX11_move) (pc := 49) dX11_move_49 rfl rfl ?_
  refine r_iload_n (μ := mX11_move) (pc := 50) dX11_move_50 rfl rfl ?_
  refine vX2 (μ := mX11_move) (pc := 51) (c0 := 9) (q0 := (RX9, TX9, 20)) (μ2 := mX9_canMove) dX11_move_51 (hF _ _ rfl) rfl lkX11_198 imX9_canMove seX9_X9_canMove_X9_canMove mwX9_canMove (Nat.le_of_ble_eq_true rfl) (k_canMove hT (by decide) hR hI hi hl) (fun r_51 mi_51 h_51 => ?_)
  obtain ⟨rfl, h51⟩ := h_51
  have hR1 := hR.ss (by decide) h51
  refine r_if_eq (μ := mX11_move) (pc := 54) (tgt := 82) dX11_move_54 (by decide) (fun h_54 => ?_) (fun h_54 => ?_)
  · have h_54 := b2i_0 h_54
    refine r_ldc (μ := mX11_move) (pc := 82) dX11_move_82 ctX11_204 ?_
    exact r_iret (μ := mX11_move) (pc := 84) dX11_move_84 rfl rfl (PX_i (by rw [if_neg]; (· exact ⟨rfl, by first | exact h51.tr h76 | exact h51⟩); (· rintro ⟨z1, z2, z3⟩; first | exact absurd (z1.symm.trans h_54) (by decide) | exact z2 h67 | exact absurd (z3.symm.trans h_79) (by decide))))
  · have h_54 := b2i_1 h_54
    refine r_aload_n (μ := mX11_move) (pc := 57) dX11_move_57 rfl rfl rfl ?_
    refine r_getR (μ := mX11_move) (pc := 58) dX11_move_58 fpX11_36 rfl (hF _ _ rfl) (by decide) (hB _ _ _ rfl) ?_
    refine r_getR (μ := mX11_move) (pc := 61) dX11_move_61 fpX11_155 rfl (hF _ _ rfl) (by decide) (hB _ _ _ rfl) ?_
    refine r_iload_n (μ := mX11_move) (pc := 64) dX11_move_64 rfl rfl ?_
    refine r_iaload (μ := mX11_move) (pc := 65) (j := l) dX11_move_65 (hF _ _ rfl) rfl (by omega) (by decide) ?_
    rw [hR1.tp hl, et]
    refine r_iload_n (μ := mX11_move) (pc := 66) dX11_move_66 rfl rfl ?_
    refine r_icmp_eq (μ := mX11_move) (pc := 67) (tgt := 82) dX11_move_67 (by decide) (fun h_67 => ?_) (fun h_67 => ?_)
    · have h67 := (nI_eq (by omega) (by omega)).mp h_67
      refine r_ldc (μ := mX11_move) (pc := 82) dX11_move_82 ctX11_204 ?_
      exact r_iret (μ := mX11_move) (pc := 84) dX11_move_84 rfl rfl (PX_i (by rw [if_neg]; (· exact ⟨rfl, by first | exact h51.tr h76 | exact h51⟩); (· rintro ⟨z1, z2, z3⟩; first | exact absurd (z1.symm.trans h_54) (by decide) | exact z2 h67 | exact absurd (z3.symm.trans h_79) (by decide))))
    · have h67 := mt (nI_eq (a := tN s l) (b := x) (by omega) (by omega)).mpr h_67
      refine r_aload_n (μ := mX11_move) (pc := 70) dX11_move_70 rfl rfl rfl ?_
      refine r_getR (μ := mX11_move) (pc := 71) dX11_move_71 fpX11_36 rfl (hF _ _ rfl) (by decide) (hB _ _ _ rfl) ?_
      refine r_iload_n (μ := mX11_move) (pc := 74) dX11_move_74 rfl rfl ?_
      refine r_iload_n (μ := mX11_move) (pc := 75) dX11_move_75 rfl rfl ?_
      refine vX2 (μ := mX11_move) (pc := 76) (c0 := 9) (q0 := (RX9, TX9, 20)) (μ2 := mX9_inReach) dX11_move_76 (hF _ _ rfl) rfl lkX11_201 imX9_inReach seX9_X9_inReach_X9_inReach mwX9_inReach (Nat.le_of_ble_eq_true rfl) (k_inReach hT (by decide) hR1 hI hl hx) (fun r_76 mi_76 h_76 => ?_)
      obtain ⟨rfl, h76⟩ := h_76
      have hR2 := hR1.ss (by decide) h76
      refine r_if_ne (μ := mX11_move) (pc := 79) (tgt := 85) dX11_move_79 (by decide) (fun h_79 => ?_) (fun h_79 => ?_)
      · have h_79 := b2i_1 h_79
        refine r_aload_n (μ := mX11_move) (pc := 85) dX11_move_85 rfl rfl rfl ?_
        refine r_getR (μ := mX11_move) (pc := 86) dX11_move_86 fpX11_36 rfl (hF _ _ rfl) (by decide) (hB _ _ _ rfl) ?_
        refine r_dup (μ := mX11_move) (pc := 89) dX11_move_89 rfl ?_
        refine r_getI (μ := mX11_move) (pc := 90) dX11_move_90 fpX11_167 rfl (hF _ _ rfl) (by decide) ?_
        refine r_iconst (μ := mX11_move) (pc := 93) (v := 1) dX11_move_93 ic_1 ?_
        refine r_iload_n (μ := mX11_move) (pc := 94) dX11_move_94 rfl rfl ?_
        refine r_ishl (μ := mX11_move) (pc := 95) dX11_move_95 ?_
        refine r_ior (μ := mX11_move) (pc := 96) dX11_move_96 ?_
        refine r_putI (μ := mX11_move) (pc := 97) dX11_move_97 fwX11_167 (hF _ _ rfl) (by decide) rfl ?_
        refine r_aload_n (μ := mX11_move) (pc := 100) dX11_move_100 rfl rfl rfl ?_
        refine r_getR (μ := mX11_move) (pc := 101) dX11_move_101 fpX11_36 rfl (hF _ _ rfl) (by decide) (hB _ _ _ rfl) ?_
        refine r_getR (μ := mX11_move) (pc := 104) dX11_move_104 fpX11_155 rfl (hF _ _ rfl) (by decide) (hB _ _ _ rfl) ?_
        refine r_iload_n (μ := mX11_move) (pc := 107) dX11_move_107 rfl rfl ?_
        refine r_iload_n (μ := mX11_move) (pc := 108) dX11_move_108 rfl rfl ?_
        refine sX3 (μ := mX11_move) (pc := 109) (μ2 := mX11_exchange) dX11_move_109 lkX11_119 stX11_exchange mwX11_exchange (Nat.le_of_ble_eq_true rfl) (k_exchange (hF _ _ rfl) rfl (show l < 8 by omega) (by decide)) (fun r_109 mi_109 h_109 => ?_)
        obtain ⟨rfl, rfl⟩ := h_109
        exact r_iret (μ := mX11_move) (pc := 112) dX11_move_112 rfl rfl (PX_i (by rw [if_pos ⟨h_54, h67, h_79⟩]; exact ⟨by rw [up_oth (by decide), hR2.tp hl, et], _, h51.tr h76, rfl⟩))
      · have h_79 := b2i_0 h_79
        refine r_ldc (μ := mX11_move) (pc := 82) dX11_move_82 ctX11_204 ?_
        exact r_iret (μ := mX11_move) (pc := 84) dX11_move_84 rfl rfl (PX_i (by rw [if_neg]; (· exact ⟨rfl, by first | exact h51.tr h76 | exact h51⟩); (· rintro ⟨z1, z2, z3⟩; first | exact absurd (z1.symm.trans h_54) (by decide) | exact z2 h67 | exact absurd (z3.symm.trans h_79) (by decide))))

theorem k_climb_bad {d : Nat} {sh : List Sh} {mi : MI} {mr : MR} (hF : SHC sh) (hB : CB mr) {s : Rw} {n m p q : Nat} (hR : RT sh mi mr 8 s n m p q) (hI : Inv s n m p q) {x y : Int32} (hb : ¬ (inR x p = true ∧ inR y m = true)) : CP (d + 1) mX11_climb [.ref 0, .int x, .int y] sh mi mr 0 0 (PI (BADc) sh mi mr) := by
  have hn10 := hI.n10; have hm8 := hI.m8; have hp6 := hI.p6; have hq14 := hI.q14
  have hT := TB.of hF hB (Or.inl rfl)
  refine CP.of (L := [_, _, _]) (by decide) rfl rfl (Nat.le_of_ble_eq_true rfl) ?_
  refine r_iload_n (μ := mX11_climb) (pc := 0) dX11_climb_0 rfl rfl ?_
  refine r_aload_n (μ := mX11_climb) (pc := 1) dX11_climb_1 rfl rfl rfl ?_
  refine r_getR (μ := mX11_climb) (pc := 2) dX11_climb_2 fpX11_36 rfl (hF _ _ rfl) (by decide) (hB _ _ _ rfl) ?_
  refine r_getI (μ := mX11_climb) (pc := 5) dX11_climb_5 fpX11_186 rfl (hF _ _ rfl) (by decide) ?_
  refine sP2 (μ := mX11_climb) (pc := 8) (μ2 := mX11_within) dX11_climb_8 lkX11_93 stX11_within mwX11_within (Nat.le_of_ble_eq_true rfl) (k_within hR.ep (by omega)) ?_
  refine r_if_eq (μ := mX11_climb) (pc := 11) (tgt := 28) dX11_climb_11 (by decide) (fun h_11 => ?_) (fun h_11 => ?_)
  · have h_11 := b2i_0 h_11
    refine r_ldc (μ := mX11_climb) (pc := 28) dX11_climb_28 ctX11_97 ?_
    exact r_iret (μ := mX11_climb) (pc := 30) dX11_climb_30 rfl rfl (PI_i rfl)
  · have h_11 := b2i_1 h_11
    refine r_iload_n (μ := mX11_climb) (pc := 14) dX11_climb_14 rfl rfl ?_
    refine r_aload_n (μ := mX11_climb) (pc := 15) dX11_climb_15 rfl rfl rfl ?_
    refine r_getR (μ := mX11_climb) (pc := 16) dX11_climb_16 fpX11_36 rfl (hF _ _ rfl) (by decide) (hB _ _ _ rfl) ?_
    refine r_getI (μ := mX11_climb) (pc := 19) dX11_climb_19 fpX11_139 rfl (hF _ _ rfl) (by decide) ?_
    refine sP2 (μ := mX11_climb) (pc := 22) (μ2 := mX11_within) dX11_climb_22 lkX11_93 stX11_within mwX11_within (Nat.le_of_ble_eq_true rfl) (k_within hR.em (by omega)) ?_
    refine r_if_ne (μ := mX11_climb) (pc := 25) (tgt := 31) dX11_climb_25 (by decide) (fun h_25 => ?_) (fun h_25 => ?_)
    · have h_25 := b2i_1 h_25
      exact absurd ⟨h_11, h_25⟩ hb
    · have h_25 := b2i_0 h_25
      refine r_ldc (μ := mX11_climb) (pc := 28) dX11_climb_28 ctX11_97 ?_
      exact r_iret (μ := mX11_climb) (pc := 30) dX11_climb_30 rfl rfl (PI_i rfl)

theorem k_minutesU {d : Nat} {sh : List Sh} {mi : MI} {mr : MR} (hT : TB sh mr 8) {s : Rw} {n m p q : Nat} (hR : RT sh mi mr 8 s n m p q) (hI : Inv s n m p q) {l j : Nat} {v : Int32} (hl : l < m) : CP (d + 3) mX9_minutesOf [.ref 8, .int (nI l)] sh (upI mi 15 j v) mr 0 0 (PI (mntN s l (tN s l) (fN s l)) sh (upI mi 15 j v) mr) := by
  have hn10 := hI.n10; have hm8 := hI.m8; have hp6 := hI.p6; have hq14 := hI.q14
  have ek : knd s l = nI (kN s l) := hI.k hl
  have et : tpp s l = nI (tN s l) := hI.t hl; have ef : fot s l = nI (fN s l) := hI.f hl; have htn := hI.tn hl; have hfn := hI.fn hl
  refine CP.of (L := [_, _, _]) (by decide) rfl rfl (Nat.le_of_ble_eq_true rfl) ?_
  refine r_iconst (μ := mX9_minutesOf) (pc := 0) (v := 0) dX9_minutesOf_0 ic_0 ?_
  refine r_aload_n (μ := mX9_minutesOf) (pc := 1) dX9_minutesOf_1 rfl rfl rfl ?_
  refine r_getR (μ := mX9_minutesOf) (pc := 2) dX9_minutesOf_2 fpX9_15 rfl (hT.1 0 _ rfl) (by decide) (hT.2.1 _ _ rfl) ?_
  refine r_aload_n (μ := mX9_minutesOf) (pc := 5) dX9_minutesOf_5 rfl rfl rfl ?_
  refine r_getR (μ := mX9_minutesOf) (pc := 6) dX9_minutesOf_6 fpX9_34 rfl (hT.1 0 _ rfl) (by decide) (hT.2.1 _ _ rfl) ?_
  refine r_iload_n (μ := mX9_minutesOf) (pc := 9) dX9_minutesOf_9 rfl rfl ?_
  refine r_iaload (μ := mX9_minutesOf) (pc := 10) (j := l) dX9_minutesOf_10 (hT.1 _ _ rfl) rfl (by omega) (by decide) ?_
  rw [up_oth (by decide), hR.tp hl, et]
  refine r_iaload (μ := mX9_minutesOf) (pc := 11) (j := tN s l) dX9_minutesOf_11 (hT.1 _ _ rfl) rfl (by omega) (by decide) ?_
  rw [up_oth (by decide), hR.hg htn]
  refine r_aload_n (μ := mX9_minutesOf) (pc := 12) dX9_minutesOf_12 rfl rfl rfl ?_
  refine r_getR (μ := mX9_minutesOf) (pc := 13) dX9_minutesOf_13 fpX9_15 rfl (hT.1 0 _ rfl) (by decide) (hT.2.1 _ _ rfl) ?_
  refine r_aload_n (μ := mX9_minutesOf) (pc := 16) dX9_minutesOf_16 rfl rfl rfl ?_
  refine r_getR (μ := mX9_minutesOf) (pc := 17) dX9_minutesOf_17 fpX9_31 rfl (hT.1 0 _ rfl) (by decide) (hT.2.1 _ _ rfl) ?_
  refine r_iload_n (μ := mX9_minutesOf) (pc := 20) dX9_minutesOf_20 rfl rfl ?_
  refine r_iaload (μ := mX9_minutesOf) (pc := 21) (j := l) dX9_minutesOf_21 (hT.1 _ _ rfl) rfl (by omega) (by decide) ?_
  rw [up_oth (by decide), hR.ft hl, ef]
  refine r_iaload (μ := mX9_minutesOf) (pc := 22) (j := fN s l) dX9_minutesOf_22 (hT.1 _ _ rfl) rfl (by omega) (by decide) ?_
  rw [up_oth (by decide), hR.hg hfn]
  refine r_isub (μ := mX9_minutesOf) (pc := 23) dX9_minutesOf_23 ?_
  refine r_mmax (μ := mX9_minutesOf) (pc := 24) dX9_minutesOf_24 lkX9_113 (Nat.le_of_ble_eq_true rfl) ?_
  rw [mx0]
  refine s_istore_n (μ := mX9_minutesOf) (pc := 27) (L2 := [_, _, _]) dX9_minutesOf_27 rfl (Nat.le_of_ble_eq_true rfl) (Nat.le_of_ble_eq_true rfl) rfl rfl ?_
  refine r_aload_n (μ := mX9_minutesOf) (pc := 28) dX9_minutesOf_28 rfl rfl rfl ?_
  refine r_getR (μ := mX9_minutesOf) (pc := 29) dX9_minutesOf_29 fpX9_73 rfl (hT.1 0 _ rfl) (by decide) hT.2.2.1 ?_
  refine r_aload_n (μ := mX9_minutesOf) (pc := 32) dX9_minutesOf_32 rfl rfl rfl ?_
  refine r_getR (μ := mX9_minutesOf) (pc := 33) dX9_minutesOf_33 fpX9_25 rfl (hT.1 0 _ rfl) (by decide) (hT.2.1 _ _ rfl) ?_
  refine r_iload_n (μ := mX9_minutesOf) (pc := 36) dX9_minutesOf_36 rfl rfl ?_
  refine r_iaload (μ := mX9_minutesOf) (pc := 37) (j := l) dX9_minutesOf_37 (hT.1 _ _ rfl) rfl (by omega) (by decide) ?_
  rw [up_oth (by decide), hR.kd hl, ek]
  refine r_aaload (μ := mX9_minutesOf) (pc := 38) (t := 0) dX9_minutesOf_38 (by decide) hT.2.2.2.1 rfl (hI.k6 hl) (by decide) (hT.2.2.2.2.1 _ (hI.k6 hl)) ?_
  refine r_iload_n (μ := mX9_minutesOf) (pc := 39) dX9_minutesOf_39 rfl rfl ?_
  refine kv_minutes (μ := mX9_minutesOf) (pc := 40) dX9_minutesOf_40 lkX9_121 hT.2.2.2 (hI.k6 hl) (Nat.le_of_ble_eq_true rfl) ?_
  exact r_iret (μ := mX9_minutesOf) (pc := 43) dX9_minutesOf_43 rfl rfl (PI_i (by unfold mntN riseN; rw [ek]))

theorem k_climb {d : Nat} {sh : List Sh} {mi : MI} {mr : MR} (hF : SHC sh) (hB : CB mr) {s : Rw} {n m p q : Nat} (hR : RT sh mi mr 8 s n m p q) (hI : Inv s n m p q) {i l : Nat} (hi : i < p) (hl : l < m) : CP (d + 6) mX11_climb [.ref 0, .int (nI i), .int (nI l)] sh mi mr 0 0 (PX sh mr (fun r mi2 => if (stdS s q l = true ∧ (sN s i = fN s l ∨ sN s i = tN s l)) then r = mntN s l (tN s l) (fN s l) ∧ ∃ mi1, SP 19 mi mi1 ∧ mi2 = upI mi1 15 i (nI (if sN s i = fN s l then tN s l else fN s l)) else r = NOc ∧ SP 19 mi mi2)) := by
  have hn10 := hI.n10; have hm8 := hI.m8; have hp6 := hI.p6; have hq14 := hI.q14
  have hT := TB.of hF hB (Or.inl rfl)
  have et : tpp s l = nI (tN s l) := hI.t hl; have htn := hI.tn hl; have ef : fot s l = nI (fN s l) := hI.f hl; have hfn := hI.fn hl; have es : spt s i = nI (sN s i) := hI.sp hi; have hsn := hI.sn hi
  refine CP.of (L := [_, _, _]) (by decide) rfl rfl (Nat.le_of_ble_eq_true rfl) ?_
  refine r_iload_n (μ := mX11_climb) (pc := 0) dX11_climb_0 rfl rfl ?_
  refine r_aload_n (μ := mX11_climb) (pc := 1) dX11_climb_1 rfl rfl rfl ?_
  refine r_getR (μ := mX11_climb) (pc := 2) dX11_climb_2 fpX11_36 rfl (hF _ _ rfl) (by decide) (hB _ _ _ rfl) ?_
  refine r_getI (μ := mX11_climb) (pc := 5) dX11_climb_5 fpX11_186 rfl (hF _ _ rfl) (by decide) ?_
  refine sP2 (μ := mX11_climb) (pc := 8) (μ2 := mX11_within) dX11_climb_8 lkX11_93 stX11_within mwX11_within (Nat.le_of_ble_eq_true rfl) (k_within hR.ep (by omega)) ?_
  refine r_if_eq (μ := mX11_climb) (pc := 11) (tgt := 28) dX11_climb_11 (by decide) (fun h_11 => absurd h_11 (b2i_ne (inR_nI hi (by omega)))) (fun h_11 => ?_)
  refine r_iload_n (μ := mX11_climb) (pc := 14) dX11_climb_14 rfl rfl ?_
  refine r_aload_n (μ := mX11_climb) (pc := 15) dX11_climb_15 rfl rfl rfl ?_
  refine r_getR (μ := mX11_climb) (pc := 16) dX11_climb_16 fpX11_36 rfl (hF _ _ rfl) (by decide) (hB _ _ _ rfl) ?_
  refine r_getI (μ := mX11_climb) (pc := 19) dX11_climb_19 fpX11_139 rfl (hF _ _ rfl) (by decide) ?_
  refine sP2 (μ := mX11_climb) (pc := 22) (μ2 := mX11_within) dX11_climb_22 lkX11_93 stX11_within mwX11_within (Nat.le_of_ble_eq_true rfl) (k_within hR.em (by omega)) ?_
  refine r_if_ne (μ := mX11_climb) (pc := 25) (tgt := 31) dX11_climb_25 (by decide) (fun h_25 => ?_) (fun h_25 => absurd h_25 (b2i_ne (inR_nI hl (by omega))))
  refine r_aload_n (μ := mX11_climb) (pc := 31) dX11_climb_31 rfl rfl rfl ?_
  refine r_getR (μ := mX11_climb) (pc := 32) dX11_climb_32 fpX11_36 rfl (hF _ _ rfl) (by decide) (hB _ _ _ rfl) ?_
  refine r_iload_n (μ := mX11_climb) (pc := 35) dX11_climb_35 rfl rfl ?_
  refine vX1 (μ := mX11_climb) (pc := 36) (c0 := 9) (q0 := (RX9, TX9, 20)) (μ2 := mX9_standsNow) dX11_climb_36 (hF _ _ rfl) rfl lkX11_164 imX9_standsNow seX9_X9_standsNow_X9_standsNow mwX9_standsNow (Nat.le_of_ble_eq_true rfl) (k_standsNow hT (by decide) hR hI hl) (fun r_36 mi_36 h_36 => ?_)
  obtain ⟨rfl, h36⟩ := h_36
  have hR1 := hR.ss (by decide) h36
  refine r_if_ne (μ := mX11_climb) (pc := 39) (tgt := 45) dX11_climb_39 (by decide) (fun h_39 => ?_) (fun h_39 => ?_)
  · have h_39 := b2i_1 h_39
    refine r_aload_n (μ := mX11_climb) (pc := 45) dX11_climb_45 rfl rfl rfl ?_
    refine r_getR (μ := mX11_climb) (pc := 46) dX11_climb_46 fpX11_36 rfl (hF _ _ rfl) (by decide) (hB _ _ _ rfl) ?_
    refine r_getR (μ := mX11_climb) (pc := 49) dX11_climb_49 fpX11_192 rfl (hF _ _ rfl) (by decide) (hB _ _ _ rfl) ?_
    refine r_iload_n (μ := mX11_climb) (pc := 52) dX11_climb_52 rfl rfl ?_
    refine r_iaload (μ := mX11_climb) (pc := 53) (j := i) dX11_climb_53 (hF _ _ rfl) rfl (by omega) (by decide) ?_
    rw [hR1.sp hi, es]
    refine r_aload_n (μ := mX11_climb) (pc := 54) dX11_climb_54 rfl rfl rfl ?_
    refine r_getR (μ := mX11_climb) (pc := 55) dX11_climb_55 fpX11_36 rfl (hF _ _ rfl) (by decide) (hB _ _ _ rfl) ?_
    refine r_getR (μ := mX11_climb) (pc := 58) dX11_climb_58 fpX11_152 rfl (hF _ _ rfl) (by decide) (hB _ _ _ rfl) ?_
    refine r_iload_n (μ := mX11_climb) (pc := 61) dX11_climb_61 rfl rfl ?_
    refine r_iaload (μ := mX11_climb) (pc := 62) (j := l) dX11_climb_62 (hF _ _ rfl) rfl (by omega) (by decide) ?_
    rw [hR1.ft hl, ef]
    refine r_icmp_ne (μ := mX11_climb) (pc := 63) (tgt := 87) dX11_climb_63 (by decide) (fun h_63 => ?_) (fun h_63 => ?_)
    · have h63 := mt (nI_eq (a := sN s i) (b := fN s l) (by omega) (by omega)).mpr h_63
      refine r_aload_n (μ := mX11_climb) (pc := 87) dX11_climb_87 rfl rfl rfl ?_
      refine r_getR (μ := mX11_climb) (pc := 88) dX11_climb_88 fpX11_36 rfl (hF _ _ rfl) (by decide) (hB _ _ _ rfl) ?_
      refine r_getR (μ := mX11_climb) (pc := 91) dX11_climb_91 fpX11_192 rfl (hF _ _ rfl) (by decide) (hB _ _ _ rfl) ?_
      refine r_iload_n (μ := mX11_climb) (pc := 94) dX11_climb_94 rfl rfl ?_
      refine r_iaload (μ := mX11_climb) (pc := 95) (j := i) dX11_climb_95 (hF _ _ rfl) rfl (by omega) (by decide) ?_
      rw [hR1.sp hi, es]
      refine r_aload_n (μ := mX11_climb) (pc := 96) dX11_climb_96 rfl rfl rfl ?_
      refine r_getR (μ := mX11_climb) (pc := 97) dX11_climb_97 fpX11_36 rfl (hF _ _ rfl) (by decide) (hB _ _ _ rfl) ?_
      refine r_getR (μ := mX11_climb) (pc := 100) dX11_climb_100 fpX11_155 rfl (hF _ _ rfl) (by decide) (hB _ _ _ rfl) ?_
      refine r_iload_n (μ := mX11_climb) (pc := 103) dX11_climb_103 rfl rfl ?_
      refine r_iaload (μ := mX11_climb) (pc := 104) (j := l) dX11_climb_104 (hF _ _ rfl) rfl (by omega) (by decide) ?_
      rw [hR1.tp hl, et]
      refine r_icmp_ne (μ := mX11_climb) (pc := 105) (tgt := 129) dX11_climb_105 (by decide) (fun h_105 => ?_) (fun h_105 => ?_)
      · have h105 := mt (nI_eq (a := sN s i) (b := tN s l) (by omega) (by omega)).mpr h_105
        refine r_ldc (μ := mX11_climb) (pc := 129) dX11_climb_129 ctX11_204 ?_
        exact r_iret (μ := mX11_climb) (pc := 131) dX11_climb_131 rfl rfl (PX_i (by rw [if_neg]; (· exact ⟨rfl, h36⟩); (· rintro ⟨-, z1 | z1⟩; (· exact h63 z1); (· exact h105 z1))))
      · have h105 := (nI_eq (by omega) (by omega)).mp h_105
        refine r_aload_n (μ := mX11_climb) (pc := 108) dX11_climb_108 rfl rfl rfl ?_
        refine r_getR (μ := mX11_climb) (pc := 109) dX11_climb_109 fpX11_36 rfl (hF _ _ rfl) (by decide) (hB _ _ _ rfl) ?_
        refine r_getR (μ := mX11_climb) (pc := 112) dX11_climb_112 fpX11_192 rfl (hF _ _ rfl) (by decide) (hB _ _ _ rfl) ?_
        refine r_iload_n (μ := mX11_climb) (pc := 115) dX11_climb_115 rfl rfl ?_
        refine r_aload_n (μ := mX11_climb) (pc := 116) dX11_climb_116 rfl rfl rfl ?_
        refine r_getR (μ := mX11_climb) (pc := 117) dX11_climb_117 fpX11_36 rfl (hF _ _ rfl) (by decide) (hB _ _ _ rfl) ?_
        refine r_getR (μ := mX11_climb) (pc := 120) dX11_climb_120 fpX11_152 rfl (hF _ _ rfl) (by decide) (hB _ _ _ rfl) ?_
        refine r_iload_n (μ := mX11_climb) (pc := 123) dX11_climb_123 rfl rfl ?_
        refine r_iaload (μ := mX11_climb) (pc := 124) (j := l) dX11_climb_124 (hF _ _ rfl) rfl (by omega) (by decide) ?_
        rw [hR1.ft hl, ef]
        refine r_iastore (μ := mX11_climb) (pc := 125) (j := i) dX11_climb_125 (hF _ _ rfl) rfl (by omega) (by decide) ?_
        refine r_goto (μ := mX11_climb) (pc := 126) (tgt := 132) dX11_climb_126 (by decide) ?_
        refine r_aload_n (μ := mX11_climb) (pc := 132) dX11_climb_132 rfl rfl rfl ?_
        refine r_getR (μ := mX11_climb) (pc := 133) dX11_climb_133 fpX11_36 rfl (hF _ _ rfl) (by decide) (hB _ _ _ rfl) ?_
        refine r_iload_n (μ := mX11_climb) (pc := 136) dX11_climb_136 rfl rfl ?_
        refine vP1 (μ := mX11_climb) (pc := 137) (c0 := 9) (q0 := (RX9, TX9, 20)) (μ2 := mX9_minutesOf) dX11_climb_137 (hF _ _ rfl) rfl lkX11_161 imX9_minutesOf seX9_X9_minutesOf_X9_minutesOf mwX9_minutesOf (Nat.le_of_ble_eq_true rfl) (k_minutesU hT hR1 hI hl) ?_
        exact r_iret (μ := mX11_climb) (pc := 140) dX11_climb_140 rfl rfl (PX_i (by first | (rw [if_pos ⟨h_39, Or.inl h63⟩]; exact ⟨rfl, _, h36, by rw [if_pos h63]⟩) | (rw [if_pos ⟨h_39, Or.inr h105⟩]; exact ⟨rfl, _, h36, by rw [if_neg h63]⟩)))
    · have h63 := (nI_eq (by omega) (by omega)).mp h_63
      refine r_aload_n (μ := mX11_climb) (pc := 66) dX11_climb_66 rfl rfl rfl ?_
      refine r_getR (μ := mX11_climb) (pc := 67) dX11_climb_67 fpX11_36 rfl (hF _ _ rfl) (by decide) (hB _ _ _ rfl) ?_
      refine r_getR (μ := mX11_climb) (pc := 70) dX11_climb_70 fpX11_192 rfl (hF _ _ rfl) (by decide) (hB _ _ _ rfl) ?_
      refine r_iload_n (μ := mX11_climb) (pc := 73) dX11_climb_73 rfl rfl ?_
      refine r_aload_n (μ := mX11_climb) (pc := 74) dX11_climb_74 rfl rfl rfl ?_
      refine r_getR (μ := mX11_climb) (pc := 75) dX11_climb_75 fpX11_36 rfl (hF _ _ rfl) (by decide) (hB _ _ _ rfl) ?_
      refine r_getR (μ := mX11_climb) (pc := 78) dX11_climb_78 fpX11_155 rfl (hF _ _ rfl) (by decide) (hB _ _ _ rfl) ?_
      refine r_iload_n (μ := mX11_climb) (pc := 81) dX11_climb_81 rfl rfl ?_
      refine r_iaload (μ := mX11_climb) (pc := 82) (j := l) dX11_climb_82 (hF _ _ rfl) rfl (by omega) (by decide) ?_
      rw [hR1.tp hl, et]
      refine r_iastore (μ := mX11_climb) (pc := 83) (j := i) dX11_climb_83 (hF _ _ rfl) rfl (by omega) (by decide) ?_
      refine r_goto (μ := mX11_climb) (pc := 84) (tgt := 132) dX11_climb_84 (by decide) ?_
      refine r_aload_n (μ := mX11_climb) (pc := 132) dX11_climb_132 rfl rfl rfl ?_
      refine r_getR (μ := mX11_climb) (pc := 133) dX11_climb_133 fpX11_36 rfl (hF _ _ rfl) (by decide) (hB _ _ _ rfl) ?_
      refine r_iload_n (μ := mX11_climb) (pc := 136) dX11_climb_136 rfl rfl ?_
      refine vP1 (μ := mX11_climb) (pc := 137) (c0 := 9) (q0 := (RX9, TX9, 20)) (μ2 := mX9_minutesOf) dX11_climb_137 (hF _ _ rfl) rfl lkX11_161 imX9_minutesOf seX9_X9_minutesOf_X9_minutesOf mwX9_minutesOf (Nat.le_of_ble_eq_true rfl) (k_minutesU hT hR1 hI hl) ?_
      exact r_iret (μ := mX11_climb) (pc := 140) dX11_climb_140 rfl rfl (PX_i (by first | (rw [if_pos ⟨h_39, Or.inl h63⟩]; exact ⟨rfl, _, h36, by rw [if_pos h63]⟩) | (rw [if_pos ⟨h_39, Or.inr h105⟩]; exact ⟨rfl, _, h36, by rw [if_neg h63]⟩)))
  · have h_39 := b2i_0 h_39
    refine r_ldc (μ := mX11_climb) (pc := 42) dX11_climb_42 ctX11_204 ?_
    exact r_iret (μ := mX11_climb) (pc := 44) dX11_climb_44 rfl rfl (PX_i (by rw [if_neg]; (· exact ⟨rfl, h36⟩); (· rintro ⟨z1, -⟩; rw [z1] at h_39; cases h_39)))

