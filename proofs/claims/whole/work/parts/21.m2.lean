theorem c_mwithin {d : Nat} {sh : List Sh} {mi : MI} {mr : MR} {v w : Int32} : CP d mX12_within [.int v, .int w] sh mi mr 0 0 (PI (clampT v w) sh mi mr) := by
  refine CP.of (L := [_, _]) (by decide) rfl rfl (Nat.le_of_ble_eq_true rfl) ?_
  refine r_iload_n (μ := mX12_within) (pc := 0) dX12_within_0 rfl rfl ?_
  refine r_if_ge (μ := mX12_within) (pc := 1) (tgt := 8) dX12_within_1 (by decide) (fun h_1 => ?_) (fun h_1 => ?_)
  · refine r_iload_n (μ := mX12_within) (pc := 8) dX12_within_8 rfl rfl ?_
    refine r_iload_n (μ := mX12_within) (pc := 9) dX12_within_9 rfl rfl ?_
    refine r_icmp_le (μ := mX12_within) (pc := 10) (tgt := 17) dX12_within_10 (by decide) (fun h_10 => ?_) (fun h_10 => ?_)
    · refine r_iload_n (μ := mX12_within) (pc := 17) dX12_within_17 rfl rfl ?_
      exact r_iret (μ := mX12_within) (pc := 18) dX12_within_18 rfl rfl (PI_i (by simp [clampT, *]))
    · refine r_iload_n (μ := mX12_within) (pc := 13) dX12_within_13 rfl rfl ?_
      refine r_goto (μ := mX12_within) (pc := 14) (tgt := 18) dX12_within_14 (by decide) ?_
      exact r_iret (μ := mX12_within) (pc := 18) dX12_within_18 rfl rfl (PI_i (by simp [clampT, *]))
  · refine r_iconst (μ := mX12_within) (pc := 4) (v := 0) dX12_within_4 ic_0 ?_
    refine r_goto (μ := mX12_within) (pc := 5) (tgt := 18) dX12_within_5 (by decide) ?_
    exact r_iret (μ := mX12_within) (pc := 18) dX12_within_18 rfl rfl (PI_i (by simp [clampT, *]))

theorem c_drawn {d : Nat} {mi : MI} {mr : MR} (hM : MB mr) : CP (d) mX12_drawn [.ref 0] shM mi mr 0 0 (PX shM mr (fun r mi2 => r = drw (nz (mi 1 6)) ∧ mi2 = upI mi 1 6 (nz (mi 1 6)))) := by
  refine CP.of (L := [_]) (by decide) rfl rfl (Nat.le_of_ble_eq_true rfl) ?_
  refine r_aload_n (μ := mX12_drawn) (pc := 0) dX12_drawn_0 rfl rfl rfl ?_
  refine r_getR (μ := mX12_drawn) (pc := 1) dX12_drawn_1 fpX12_7 rfl rfl (by decide) (hM _ _ rfl) ?_
  refine r_bipush (μ := mX12_drawn) (pc := 4) (v := 6) dX12_drawn_4 bp_6 ?_
  refine r_aload_n (μ := mX12_drawn) (pc := 6) dX12_drawn_6 rfl rfl rfl ?_
  refine r_getR (μ := mX12_drawn) (pc := 7) dX12_drawn_7 fpX12_7 rfl rfl (by decide) (hM _ _ rfl) ?_
  refine r_bipush (μ := mX12_drawn) (pc := 10) (v := 6) dX12_drawn_10 bp_6 ?_
  refine r_iaload (μ := mX12_drawn) (pc := 12) (j := 6) dX12_drawn_12 rfl rfl (by decide) (by decide) ?_
  refine r_ldc (μ := mX12_drawn) (pc := 13) dX12_drawn_13 ctX12_69 ?_
  refine r_imul (μ := mX12_drawn) (pc := 15) dX12_drawn_15 ?_
  refine r_sipush (μ := mX12_drawn) (pc := 16) (v := 12345) dX12_drawn_16 sp_12345 ?_
  refine r_iadd (μ := mX12_drawn) (pc := 19) dX12_drawn_19 ?_
  refine r_iastore (μ := mX12_drawn) (pc := 20) (j := 6) dX12_drawn_20 rfl rfl (by decide) (by decide) ?_
  refine r_aload_n (μ := mX12_drawn) (pc := 21) dX12_drawn_21 rfl rfl rfl ?_
  refine r_getR (μ := mX12_drawn) (pc := 22) dX12_drawn_22 fpX12_7 rfl rfl (by decide) (hM _ _ rfl) ?_
  refine r_bipush (μ := mX12_drawn) (pc := 25) (v := 6) dX12_drawn_25 bp_6 ?_
  refine r_iaload (μ := mX12_drawn) (pc := 27) (j := 6) dX12_drawn_27 rfl rfl (by decide) (by decide) ?_
  refine r_bipush (μ := mX12_drawn) (pc := 28) (v := 8) dX12_drawn_28 bp_8 ?_
  refine r_iushr (μ := mX12_drawn) (pc := 30) dX12_drawn_30 ?_
  exact r_iret (μ := mX12_drawn) (pc := 31) dX12_drawn_31 rfl rfl (PX_i ⟨by rw [up_eq]; rfl, rfl⟩)

theorem lp_ones {d : Nat} {sh : List Sh} {mi : MI} {mr : MR} {Q : QT} {x : Int32} (hq : Q (some (.int (onesK x 10))) sh mi mr) : ∀ (k : Nat) (i : Nat), i + k = 10 → WP d mX12_ones 4 [.int x, .int (onesK x i), .int (nI i)] [] sh mi mr 0 0 Q := by
  intro k
  induction k with
  | zero =>
    intro i hk
    refine r_iload_n (μ := mX12_ones) (pc := 4) dX12_ones_4 rfl rfl ?_
    refine r_bipush (μ := mX12_ones) (pc := 5) (v := 10) dX12_ones_5 bp_10 ?_
    refine r_icmp_ge (μ := mX12_ones) (pc := 7) (tgt := 24) dX12_ones_7 (by decide) (fun h_7 => ?_) (fun h_7 => absurd (nI_leC (a := 10) rfl (by omega) (by omega)) h_7)
    obtain rfl : i = 10 := by omega
    refine r_iload_n (μ := mX12_ones) (pc := 24) dX12_ones_24 rfl rfl ?_
    exact r_iret (μ := mX12_ones) (pc := 25) dX12_ones_25 rfl rfl hq
  | succ k ih =>
    intro i hk
    refine r_iload_n (μ := mX12_ones) (pc := 4) dX12_ones_4 rfl rfl ?_
    refine r_bipush (μ := mX12_ones) (pc := 5) (v := 10) dX12_ones_5 bp_10 ?_
    refine r_icmp_ge (μ := mX12_ones) (pc := 7) (tgt := 24) dX12_ones_7 (by decide) (fun h_7 => absurd h_7 (nI_geC (b := 10) rfl (by omega) (by decide))) (fun h_7 => ?_)
    refine r_iload_n (μ := mX12_ones) (pc := 10) dX12_ones_10 rfl rfl ?_
    refine r_iload_n (μ := mX12_ones) (pc := 11) dX12_ones_11 rfl rfl ?_
    refine r_iload_n (μ := mX12_ones) (pc := 12) dX12_ones_12 rfl rfl ?_
    refine r_ishr (μ := mX12_ones) (pc := 13) dX12_ones_13 ?_
    refine r_iconst (μ := mX12_ones) (pc := 14) (v := 1) dX12_ones_14 ic_1 ?_
    refine r_iand (μ := mX12_ones) (pc := 15) dX12_ones_15 ?_
    refine r_iadd (μ := mX12_ones) (pc := 16) dX12_ones_16 ?_
    refine s_istore_n (μ := mX12_ones) (pc := 17) (L2 := [_, _, _]) dX12_ones_17 rfl (Nat.le_of_ble_eq_true rfl) (Nat.le_of_ble_eq_true rfl) rfl rfl ?_
    refine s_iinc (μ := mX12_ones) (pc := 18) (c := 1) (L2 := [_, _, _]) dX12_ones_18 rfl ic_1 (Nat.le_of_ble_eq_true rfl) rfl rfl ?_
    refine r_goto (μ := mX12_ones) (pc := 21) (tgt := 4) dX12_ones_21 (by decide) ?_
    exact WP.L (by simp only [onesK, nI_succ]) (ih (i + 1) (by omega))

theorem c_ones {d : Nat} {sh : List Sh} {mi : MI} {mr : MR} {x : Int32} : CP d mX12_ones [.int x] sh mi mr 0 0 (PI (onesK x 10) sh mi mr) := by
  refine CP.of (L := [_, _, _]) (by decide) rfl rfl (Nat.le_of_ble_eq_true rfl) ?_
  refine r_iconst (μ := mX12_ones) (pc := 0) (v := 0) dX12_ones_0 ic_0 ?_
  refine s_istore_n (μ := mX12_ones) (pc := 1) (L2 := [_, _, _]) dX12_ones_1 rfl (Nat.le_of_ble_eq_true rfl) (Nat.le_of_ble_eq_true rfl) rfl rfl ?_
  refine r_iconst (μ := mX12_ones) (pc := 2) (v := 0) dX12_ones_2 ic_0 ?_
  refine s_istore_n (μ := mX12_ones) (pc := 3) (L2 := [_, _, _]) dX12_ones_3 rfl (Nat.le_of_ble_eq_true rfl) (Nat.le_of_ble_eq_true rfl) rfl rfl ?_
  exact lp_ones (PI_i rfl) 10 0 rfl

theorem lp_peopleOn {d : Nat} {mi : MI} {mr : MR} {Q : QT} (hM : MB mr) {x : Int32} {n : Nat} (hn : mi 1 2 = nI n) (hn6 : n ≤ 6) (hq : Q (some (.int (nI (cntB (fun p => decide (spt (mi 1) p = x)) n)))) shM mi mr) : ∀ (k : Nat) (i : Nat), i + k = n → WP (d + 1) mX12_peopleOn 4 [.ref 0, .int x, .int (nI (cntB (fun p => decide (spt (mi 1) p = x)) i)), .int (nI i)] [] shM mi mr 0 0 Q := by
  intro k
  induction k with
  | zero =>
    intro i hk
    refine r_iload_n (μ := mX12_peopleOn) (pc := 4) dX12_peopleOn_4 rfl rfl ?_
    refine r_aload_n (μ := mX12_peopleOn) (pc := 5) dX12_peopleOn_5 rfl rfl rfl ?_
    refine r_getR (μ := mX12_peopleOn) (pc := 6) dX12_peopleOn_6 fpX12_7 rfl rfl (by decide) (hM _ _ rfl) ?_
    refine r_iconst (μ := mX12_peopleOn) (pc := 9) (v := 2) dX12_peopleOn_9 ic_2 ?_
    refine r_iaload (μ := mX12_peopleOn) (pc := 10) (j := 2) dX12_peopleOn_10 rfl rfl (by decide) (by decide) ?_
    refine r_icmp_ge (μ := mX12_peopleOn) (pc := 11) (tgt := 37) dX12_peopleOn_11 (by decide) (fun h_11 => ?_) (fun h_11 => absurd (by rw [hn]; exact nI_le (by omega) (by omega)) h_11)
    obtain rfl : i = n := by omega
    refine r_iload_n (μ := mX12_peopleOn) (pc := 37) dX12_peopleOn_37 rfl rfl ?_
    exact r_iret (μ := mX12_peopleOn) (pc := 38) dX12_peopleOn_38 rfl rfl hq
  | succ k ih =>
    intro i hk
    refine r_iload_n (μ := mX12_peopleOn) (pc := 4) dX12_peopleOn_4 rfl rfl ?_
    refine r_aload_n (μ := mX12_peopleOn) (pc := 5) dX12_peopleOn_5 rfl rfl rfl ?_
    refine r_getR (μ := mX12_peopleOn) (pc := 6) dX12_peopleOn_6 fpX12_7 rfl rfl (by decide) (hM _ _ rfl) ?_
    refine r_iconst (μ := mX12_peopleOn) (pc := 9) (v := 2) dX12_peopleOn_9 ic_2 ?_
    refine r_iaload (μ := mX12_peopleOn) (pc := 10) (j := 2) dX12_peopleOn_10 rfl rfl (by decide) (by decide) ?_
    refine r_icmp_ge (μ := mX12_peopleOn) (pc := 11) (tgt := 37) dX12_peopleOn_11 (by decide) (fun h_11 => absurd h_11 (by rw [hn]; exact nI_ge (by omega) (by omega))) (fun h_11 => ?_)
    refine r_iload_n (μ := mX12_peopleOn) (pc := 14) dX12_peopleOn_14 rfl rfl ?_
    refine r_aload_n (μ := mX12_peopleOn) (pc := 15) dX12_peopleOn_15 rfl rfl rfl ?_
    refine r_iload_n (μ := mX12_peopleOn) (pc := 16) dX12_peopleOn_16 rfl rfl ?_
    refine vP1 (μ := mX12_peopleOn) (pc := 17) (c0 := 12) (q0 := (RX12, TX12, 34)) (μ2 := mX12_where) dX12_peopleOn_17 rfl rfl lkX12_70 imX12_where seX12_X12_where_X12_where mwX12_where (Nat.le_of_ble_eq_true rfl) (c_where hM (by omega)) ?_
    refine r_iload_n (μ := mX12_peopleOn) (pc := 20) dX12_peopleOn_20 rfl rfl ?_
    refine r_icmp_ne (μ := mX12_peopleOn) (pc := 21) (tgt := 28) dX12_peopleOn_21 (by decide) (fun h_21 => ?_) (fun h_21 => ?_)
    · refine r_iconst (μ := mX12_peopleOn) (pc := 28) (v := 0) dX12_peopleOn_28 ic_0 ?_
      refine r_iadd (μ := mX12_peopleOn) (pc := 29) dX12_peopleOn_29 ?_
      refine s_istore_n (μ := mX12_peopleOn) (pc := 30) (L2 := [_, _, _, _]) dX12_peopleOn_30 rfl (Nat.le_of_ble_eq_true rfl) (Nat.le_of_ble_eq_true rfl) rfl rfl ?_
      refine s_iinc (μ := mX12_peopleOn) (pc := 31) (c := 1) (L2 := [_, _, _, _]) dX12_peopleOn_31 rfl ic_1 (Nat.le_of_ble_eq_true rfl) rfl rfl ?_
      refine r_goto (μ := mX12_peopleOn) (pc := 34) (tgt := 4) dX12_peopleOn_34 (by decide) ?_
      exact WP.L (by simp [cntB, spt, nI_succ, h_21]) (ih (i + 1) (by omega))
    · refine r_iconst (μ := mX12_peopleOn) (pc := 24) (v := 1) dX12_peopleOn_24 ic_1 ?_
      refine r_goto (μ := mX12_peopleOn) (pc := 25) (tgt := 29) dX12_peopleOn_25 (by decide) ?_
      refine r_iadd (μ := mX12_peopleOn) (pc := 29) dX12_peopleOn_29 ?_
      refine s_istore_n (μ := mX12_peopleOn) (pc := 30) (L2 := [_, _, _, _]) dX12_peopleOn_30 rfl (Nat.le_of_ble_eq_true rfl) (Nat.le_of_ble_eq_true rfl) rfl rfl ?_
      refine s_iinc (μ := mX12_peopleOn) (pc := 31) (c := 1) (L2 := [_, _, _, _]) dX12_peopleOn_31 rfl ic_1 (Nat.le_of_ble_eq_true rfl) rfl rfl ?_
      refine r_goto (μ := mX12_peopleOn) (pc := 34) (tgt := 4) dX12_peopleOn_34 (by decide) ?_
      exact WP.L (by simp [cntB, spt, nI_succ, h_21]) (ih (i + 1) (by omega))

theorem c_isInK {d : Nat} {sh : List Sh} {mi : MI} {mr : MR} {x : Int32} {a b : Int64} {lo hi : Int} (ha : a.toInt = lo) (hb : b.toInt = hi) : CP d mX12_isIn [.long x.toInt64, .long a, .long b] sh mi mr 0 0 (PI (b2i (inB x lo hi)) sh mi mr) := isIn_k ha hb ▸ c_isIn

theorem c_becomesE {d : Nat} {mi : MI} {mr : MR} (hM : MB mr) {x : Int32} {k : Nat} {v : Int32} (hx : x = nI k) (hk : k < 3080) : CP d mX12_becomes [.ref 0, .int x, .int v] shM mi mr 0 0 (PX shM mr (fun r mi2 => r = mi 1 k ∧ mi2 = upI mi 1 k v)) := by
  subst hx
  exact c_becomes hM hk
theorem inB01_0 : inB 0 0 1 = true := by decide
theorem inB01_1 : inB 1 0 1 = true := by decide

theorem c_comes {d : Nat} {mi : MI} {mr : MR} (hM : MB mr) {n : Nat} {h p : Int32} (hn : mi 1 0 = nI n) (hn9 : n < 10) : CP (d) mX12_comes [.ref 0, .int h, .int p] shM mi mr 0 0 (PV shM mr (fun mi2 => mi2 = addL mi n h p)) := by
  refine CP.of (L := [_, _, _]) (by decide) rfl rfl (Nat.le_of_ble_eq_true rfl) ?_
  refine r_aload_n (μ := mX12_comes) (pc := 0) dX12_comes_0 rfl rfl rfl ?_
  refine r_getR (μ := mX12_comes) (pc := 1) dX12_comes_1 fpX12_7 rfl rfl (by decide) (hM _ _ rfl) ?_
  refine r_bipush (μ := mX12_comes) (pc := 4) (v := 8) dX12_comes_4 bp_8 ?_
  refine r_iconst (μ := mX12_comes) (pc := 6) (v := 2) dX12_comes_6 ic_2 ?_
  refine r_aload_n (μ := mX12_comes) (pc := 7) dX12_comes_7 rfl rfl rfl ?_
  refine r_getR (μ := mX12_comes) (pc := 8) dX12_comes_8 fpX12_7 rfl rfl (by decide) (hM _ _ rfl) ?_
  refine r_iconst (μ := mX12_comes) (pc := 11) (v := 0) dX12_comes_11 ic_0 ?_
  refine r_iaload (μ := mX12_comes) (pc := 12) (j := 0) dX12_comes_12 rfl rfl (by decide) (by decide) ?_
  rw [hn]
  refine r_imul (μ := mX12_comes) (pc := 13) dX12_comes_13 ?_
  refine r_iadd (μ := mX12_comes) (pc := 14) dX12_comes_14 ?_
  refine r_iload_n (μ := mX12_comes) (pc := 15) dX12_comes_15 rfl rfl ?_
  refine r_iastore (μ := mX12_comes) (pc := 16) (j := (8 + (2 * n))) dX12_comes_16 rfl (by simp only [← nI_add, ← pk_mul]; rfl) (by omega) (by decide) ?_
  refine r_aload_n (μ := mX12_comes) (pc := 17) dX12_comes_17 rfl rfl rfl ?_
  refine r_getR (μ := mX12_comes) (pc := 18) dX12_comes_18 fpX12_7 rfl rfl (by decide) (hM _ _ rfl) ?_
  refine r_bipush (μ := mX12_comes) (pc := 21) (v := 8) dX12_comes_21 bp_8 ?_
  refine r_iconst (μ := mX12_comes) (pc := 23) (v := 2) dX12_comes_23 ic_2 ?_
  refine r_aload_n (μ := mX12_comes) (pc := 24) dX12_comes_24 rfl rfl rfl ?_
  refine r_getR (μ := mX12_comes) (pc := 25) dX12_comes_25 fpX12_7 rfl rfl (by decide) (hM _ _ rfl) ?_
  refine r_iconst (μ := mX12_comes) (pc := 28) (v := 0) dX12_comes_28 ic_0 ?_
  refine r_iaload (μ := mX12_comes) (pc := 29) (j := 0) dX12_comes_29 rfl rfl (by decide) (by decide) ?_
  rw [up_ne (by omega), hn]
  refine r_imul (μ := mX12_comes) (pc := 30) dX12_comes_30 ?_
  refine r_iadd (μ := mX12_comes) (pc := 31) dX12_comes_31 ?_
  refine r_iconst (μ := mX12_comes) (pc := 32) (v := 1) dX12_comes_32 ic_1 ?_
  refine r_iadd (μ := mX12_comes) (pc := 33) dX12_comes_33 ?_
  refine r_iload_n (μ := mX12_comes) (pc := 34) dX12_comes_34 rfl rfl ?_
  refine r_iastore (μ := mX12_comes) (pc := 35) (j := ((8 + (2 * n)) + 1)) dX12_comes_35 rfl (by simp only [← nI_add, ← pk_mul]; rfl) (by omega) (by decide) ?_
  refine r_aload_n (μ := mX12_comes) (pc := 36) dX12_comes_36 rfl rfl rfl ?_
  refine r_getR (μ := mX12_comes) (pc := 37) dX12_comes_37 fpX12_7 rfl rfl (by decide) (hM _ _ rfl) ?_
  refine r_iconst (μ := mX12_comes) (pc := 40) (v := 0) dX12_comes_40 ic_0 ?_
  refine r_dup2 (μ := mX12_comes) (pc := 41) dX12_comes_41 rfl rfl ?_
  refine r_iaload (μ := mX12_comes) (pc := 42) (j := 0) dX12_comes_42 rfl rfl (by decide) (by decide) ?_
  rw [up_ne (by omega), up_ne (by omega), hn]
  refine r_iconst (μ := mX12_comes) (pc := 43) (v := 1) dX12_comes_43 ic_1 ?_
  refine r_iadd (μ := mX12_comes) (pc := 44) dX12_comes_44 ?_
  refine r_iastore (μ := mX12_comes) (pc := 45) (j := 0) dX12_comes_45 rfl rfl (by decide) (by decide) ?_
  exact r_vret (μ := mX12_comes) (pc := 46) dX12_comes_46 rfl (PV_i (by unfold addL; rw [nI_succ]))

theorem c_ledge_bad {d : Nat} {mi : MI} {mr : MR} (hM : MB mr) {h p : Int32} (hb : ¬ (inB h 0 99 = true ∧ inB p 0 29 = true)) : CP (d + 2) mX12_ledge [.ref 0, .int h, .int p] shM mi mr 0 0 (PI (BADc) shM mi mr) := by
  refine CP.of (L := [_, _, _]) (by decide) rfl rfl (Nat.le_of_ble_eq_true rfl) ?_
  refine r_iload_n (μ := mX12_ledge) (pc := 0) dX12_ledge_0 rfl rfl ?_
  refine r_i2l (μ := mX12_ledge) (pc := 1) dX12_ledge_1 ?_
  refine r_lconst (μ := mX12_ledge) (pc := 2) (v := 0) dX12_ledge_2 lc_0 ?_
  refine r_ldc2 (μ := mX12_ledge) (pc := 3) dX12_ledge_3 clX12_74 ?_
  refine sP3 (μ := mX12_ledge) (pc := 6) (μ2 := mX12_isIn) dX12_ledge_6 lkX12_65 stX12_isIn mwX12_isIn (Nat.le_of_ble_eq_true rfl) (c_isInK il_0 il_99) ?_
  refine r_if_eq (μ := mX12_ledge) (pc := 9) (tgt := 24) dX12_ledge_9 (by decide) (fun h_9 => ?_) (fun h_9 => ?_)
  · have h_9 := b2i_0 h_9
    refine r_ldc (μ := mX12_ledge) (pc := 24) dX12_ledge_24 ctX12_78 ?_
    exact r_iret (μ := mX12_ledge) (pc := 26) dX12_ledge_26 rfl rfl (PI_i rfl)
  · have h_9 := b2i_1 h_9
    refine r_iload_n (μ := mX12_ledge) (pc := 12) dX12_ledge_12 rfl rfl ?_
    refine r_i2l (μ := mX12_ledge) (pc := 13) dX12_ledge_13 ?_
    refine r_lconst (μ := mX12_ledge) (pc := 14) (v := 0) dX12_ledge_14 lc_0 ?_
    refine r_ldc2 (μ := mX12_ledge) (pc := 15) dX12_ledge_15 clX12_76 ?_
    refine sP3 (μ := mX12_ledge) (pc := 18) (μ2 := mX12_isIn) dX12_ledge_18 lkX12_65 stX12_isIn mwX12_isIn (Nat.le_of_ble_eq_true rfl) (c_isInK il_0 il_29) ?_
    refine r_if_ne (μ := mX12_ledge) (pc := 21) (tgt := 27) dX12_ledge_21 (by decide) (fun h_21 => ?_) (fun h_21 => ?_)
    · have h_21 := b2i_1 h_21
      exact absurd ⟨h_9, h_21⟩ hb
    · have h_21 := b2i_0 h_21
      refine r_ldc (μ := mX12_ledge) (pc := 24) dX12_ledge_24 ctX12_78 ?_
      exact r_iret (μ := mX12_ledge) (pc := 26) dX12_ledge_26 rfl rfl (PI_i rfl)

theorem c_ledge_full {d : Nat} {mi : MI} {mr : MR} (hM : MB mr) {h p : Int32} (h1 : inB h 0 99 = true) (h2 : inB p 0 29 = true) (hn : mi 1 0 = 10) : CP (d + 2) mX12_ledge [.ref 0, .int h, .int p] shM mi mr 0 0 (PI (FULLc) shM mi mr) := by
  refine CP.of (L := [_, _, _]) (by decide) rfl rfl (Nat.le_of_ble_eq_true rfl) ?_
  refine r_iload_n (μ := mX12_ledge) (pc := 0) dX12_ledge_0 rfl rfl ?_
  refine r_i2l (μ := mX12_ledge) (pc := 1) dX12_ledge_1 ?_
  refine r_lconst (μ := mX12_ledge) (pc := 2) (v := 0) dX12_ledge_2 lc_0 ?_
  refine r_ldc2 (μ := mX12_ledge) (pc := 3) dX12_ledge_3 clX12_74 ?_
  refine sP3 (μ := mX12_ledge) (pc := 6) (μ2 := mX12_isIn) dX12_ledge_6 lkX12_65 stX12_isIn mwX12_isIn (Nat.le_of_ble_eq_true rfl) (c_isInK il_0 il_99) ?_
  refine r_if_eq (μ := mX12_ledge) (pc := 9) (tgt := 24) dX12_ledge_9 (by decide) (fun h_9 => absurd h_9 (b2i_ne h1)) (fun h_9 => ?_)
  refine r_iload_n (μ := mX12_ledge) (pc := 12) dX12_ledge_12 rfl rfl ?_
  refine r_i2l (μ := mX12_ledge) (pc := 13) dX12_ledge_13 ?_
  refine r_lconst (μ := mX12_ledge) (pc := 14) (v := 0) dX12_ledge_14 lc_0 ?_
  refine r_ldc2 (μ := mX12_ledge) (pc := 15) dX12_ledge_15 clX12_76 ?_
  refine sP3 (μ := mX12_ledge) (pc := 18) (μ2 := mX12_isIn) dX12_ledge_18 lkX12_65 stX12_isIn mwX12_isIn (Nat.le_of_ble_eq_true rfl) (c_isInK il_0 il_29) ?_
  refine r_if_ne (μ := mX12_ledge) (pc := 21) (tgt := 27) dX12_ledge_21 (by decide) (fun h_21 => ?_) (fun h_21 => absurd h_21 (b2i_ne h2))
  refine r_aload_n (μ := mX12_ledge) (pc := 27) dX12_ledge_27 rfl rfl rfl ?_
  refine r_getR (μ := mX12_ledge) (pc := 28) dX12_ledge_28 fpX12_7 rfl rfl (by decide) (hM _ _ rfl) ?_
  refine r_iconst (μ := mX12_ledge) (pc := 31) (v := 0) dX12_ledge_31 ic_0 ?_
  refine r_iaload (μ := mX12_ledge) (pc := 32) (j := 0) dX12_ledge_32 rfl rfl (by decide) (by decide) ?_
  refine r_bipush (μ := mX12_ledge) (pc := 33) (v := 10) dX12_ledge_33 bp_10 ?_
  refine r_icmp_ne (μ := mX12_ledge) (pc := 35) (tgt := 41) dX12_ledge_35 (by decide) (fun h_35 => absurd hn h_35) (fun h_35 => ?_)
  refine r_ldc (μ := mX12_ledge) (pc := 38) dX12_ledge_38 ctX12_79 ?_
  exact r_iret (μ := mX12_ledge) (pc := 40) dX12_ledge_40 rfl rfl (PI_i rfl)

theorem c_ledge {d : Nat} {mi : MI} {mr : MR} (hM : MB mr) {h p : Int32} {n : Nat} (h1 : inB h 0 99 = true) (h2 : inB p 0 29 = true) (hn : mi 1 0 = nI n) (hn9 : n < 10) : CP (d + 2) mX12_ledge [.ref 0, .int h, .int p] shM mi mr 0 0 (PX shM mr (fun r mi2 => r = nI n ∧ mi2 = addL mi n h p)) := by
  refine CP.of (L := [_, _, _]) (by decide) rfl rfl (Nat.le_of_ble_eq_true rfl) ?_
  refine r_iload_n (μ := mX12_ledge) (pc := 0) dX12_ledge_0 rfl rfl ?_
  refine r_i2l (μ := mX12_ledge) (pc := 1) dX12_ledge_1 ?_
  refine r_lconst (μ := mX12_ledge) (pc := 2) (v := 0) dX12_ledge_2 lc_0 ?_
  refine r_ldc2 (μ := mX12_ledge) (pc := 3) dX12_ledge_3 clX12_74 ?_
  refine sP3 (μ := mX12_ledge) (pc := 6) (μ2 := mX12_isIn) dX12_ledge_6 lkX12_65 stX12_isIn mwX12_isIn (Nat.le_of_ble_eq_true rfl) (c_isInK il_0 il_99) ?_
  refine r_if_eq (μ := mX12_ledge) (pc := 9) (tgt := 24) dX12_ledge_9 (by decide) (fun h_9 => absurd h_9 (b2i_ne h1)) (fun h_9 => ?_)
  refine r_iload_n (μ := mX12_ledge) (pc := 12) dX12_ledge_12 rfl rfl ?_
  refine r_i2l (μ := mX12_ledge) (pc := 13) dX12_ledge_13 ?_
  refine r_lconst (μ := mX12_ledge) (pc := 14) (v := 0) dX12_ledge_14 lc_0 ?_
  refine r_ldc2 (μ := mX12_ledge) (pc := 15) dX12_ledge_15 clX12_76 ?_
  refine sP3 (μ := mX12_ledge) (pc := 18) (μ2 := mX12_isIn) dX12_ledge_18 lkX12_65 stX12_isIn mwX12_isIn (Nat.le_of_ble_eq_true rfl) (c_isInK il_0 il_29) ?_
  refine r_if_ne (μ := mX12_ledge) (pc := 21) (tgt := 27) dX12_ledge_21 (by decide) (fun h_21 => ?_) (fun h_21 => absurd h_21 (b2i_ne h2))
  refine r_aload_n (μ := mX12_ledge) (pc := 27) dX12_ledge_27 rfl rfl rfl ?_
  refine r_getR (μ := mX12_ledge) (pc := 28) dX12_ledge_28 fpX12_7 rfl rfl (by decide) (hM _ _ rfl) ?_
  refine r_iconst (μ := mX12_ledge) (pc := 31) (v := 0) dX12_ledge_31 ic_0 ?_
  refine r_iaload (μ := mX12_ledge) (pc := 32) (j := 0) dX12_ledge_32 rfl rfl (by decide) (by decide) ?_
  refine r_bipush (μ := mX12_ledge) (pc := 33) (v := 10) dX12_ledge_33 bp_10 ?_
  refine r_icmp_ne (μ := mX12_ledge) (pc := 35) (tgt := 41) dX12_ledge_35 (by decide) (fun h_35 => ?_) (fun h_35 => absurd h_35 (by rw [hn]; exact fun q => absurd ((nI_eq (a := n) (b := 10) (by omega) (by decide)).mp q) (by omega)))
  refine r_aload_n (μ := mX12_ledge) (pc := 41) dX12_ledge_41 rfl rfl rfl ?_
  refine r_iload_n (μ := mX12_ledge) (pc := 42) dX12_ledge_42 rfl rfl ?_
  refine r_iload_n (μ := mX12_ledge) (pc := 43) dX12_ledge_43 rfl rfl ?_
  refine vV2 (μ := mX12_ledge) (pc := 44) (c0 := 12) (q0 := (RX12, TX12, 34)) (μ2 := mX12_comes) dX12_ledge_44 rfl rfl lkX12_80 imX12_comes seX12_X12_comes_X12_comes mwX12_comes (Nat.le_of_ble_eq_true rfl) (c_comes hM hn hn9) (fun mi_44 h_44 => ?_)
  subst h_44
  refine r_aload_n (μ := mX12_ledge) (pc := 47) dX12_ledge_47 rfl rfl rfl ?_
  refine r_getR (μ := mX12_ledge) (pc := 48) dX12_ledge_48 fpX12_7 rfl rfl (by decide) (hM _ _ rfl) ?_
  refine r_iconst (μ := mX12_ledge) (pc := 51) (v := 0) dX12_ledge_51 ic_0 ?_
  refine r_iaload (μ := mX12_ledge) (pc := 52) (j := 0) dX12_ledge_52 rfl rfl (by decide) (by decide) ?_
  refine r_iconst (μ := mX12_ledge) (pc := 53) (v := 1) dX12_ledge_53 ic_1 ?_
  refine r_isub (μ := mX12_ledge) (pc := 54) dX12_ledge_54 ?_
  exact r_iret (μ := mX12_ledge) (pc := 55) dX12_ledge_55 rfl rfl (PX_i ⟨by unfold addL; rw [up_eq]; exact nI_pred n, rfl⟩)

theorem c_change_bad {d : Nat} {mi : MI} {mr : MR} (hM : MB mr) {n : Nat} (hn : mi 1 0 = nI n) (hn10 : n ≤ 10) {x w v : Int32} (hb : inR x n = true → inB w 0 1 = true → (w = 0 → inB v 0 99 = true → False) ∧ (¬ w = 0 → inB v 0 29 = true → False)) : CP (d + 2) mX12_change [.ref 0, .int x, .int w, .int v] shM mi mr 0 0 (PI (BADc) shM mi mr) := by
  refine CP.of (L := [_, _, _, _]) (by decide) rfl rfl (Nat.le_of_ble_eq_true rfl) ?_
  refine r_aload_n (μ := mX12_change) (pc := 0) dX12_change_0 rfl rfl rfl ?_
  refine r_iload_n (μ := mX12_change) (pc := 1) dX12_change_1 rfl rfl ?_
  refine vP1 (μ := mX12_change) (pc := 2) (c0 := 12) (q0 := (RX12, TX12, 34)) (μ2 := mX12_isLedge) dX12_change_2 rfl rfl lkX12_84 imX12_isLedge seX12_X12_isLedge_X12_isLedge mwX12_isLedge (Nat.le_of_ble_eq_true rfl) (c_isLedge hM hn (by omega)) ?_
  refine r_if_eq (μ := mX12_change) (pc := 5) (tgt := 40) dX12_change_5 (by decide) (fun h_5 => ?_) (fun h_5 => ?_)
  · have h_5 := b2i_0 h_5
    refine r_ldc (μ := mX12_change) (pc := 40) dX12_change_40 ctX12_78 ?_
    exact r_iret (μ := mX12_change) (pc := 42) dX12_change_42 rfl rfl (PI_i rfl)
  · have h_5 := b2i_1 h_5
    refine r_iload_n (μ := mX12_change) (pc := 8) dX12_change_8 rfl rfl ?_
    refine r_i2l (μ := mX12_change) (pc := 9) dX12_change_9 ?_
    refine r_lconst (μ := mX12_change) (pc := 10) (v := 0) dX12_change_10 lc_0 ?_
    refine r_lconst (μ := mX12_change) (pc := 11) (v := 1) dX12_change_11 lc_1 ?_
    refine sP3 (μ := mX12_change) (pc := 12) (μ2 := mX12_isIn) dX12_change_12 lkX12_65 stX12_isIn mwX12_isIn (Nat.le_of_ble_eq_true rfl) (c_isInK il_0 il_1) ?_
    refine r_if_eq (μ := mX12_change) (pc := 15) (tgt := 40) dX12_change_15 (by decide) (fun h_15 => ?_) (fun h_15 => ?_)
    · have h_15 := b2i_0 h_15
      refine r_ldc (μ := mX12_change) (pc := 40) dX12_change_40 ctX12_78 ?_
      exact r_iret (μ := mX12_change) (pc := 42) dX12_change_42 rfl rfl (PI_i rfl)
    · have h_15 := b2i_1 h_15
      refine r_iload_n (μ := mX12_change) (pc := 18) dX12_change_18 rfl rfl ?_
      refine r_i2l (μ := mX12_change) (pc := 19) dX12_change_19 ?_
      refine r_lconst (μ := mX12_change) (pc := 20) (v := 0) dX12_change_20 lc_0 ?_
      refine r_iload_n (μ := mX12_change) (pc := 21) dX12_change_21 rfl rfl ?_
      refine r_if_ne (μ := mX12_change) (pc := 22) (tgt := 31) dX12_change_22 (by decide) (fun h_22 => ?_) (fun h_22 => ?_)
      · refine r_ldc2 (μ := mX12_change) (pc := 31) dX12_change_31 clX12_76 ?_
        refine sP3 (μ := mX12_change) (pc := 34) (μ2 := mX12_isIn) dX12_change_34 lkX12_65 stX12_isIn mwX12_isIn (Nat.le_of_ble_eq_true rfl) (c_isInK il_0 il_29) ?_
        refine r_if_ne (μ := mX12_change) (pc := 37) (tgt := 43) dX12_change_37 (by decide) (fun h_37 => absurd (b2i_1 h_37) (fun q => (hb h_5 h_15).2 h_22 q)) (fun h_37 => ?_)
        refine r_ldc (μ := mX12_change) (pc := 40) dX12_change_40 ctX12_78 ?_
        exact r_iret (μ := mX12_change) (pc := 42) dX12_change_42 rfl rfl (PI_i rfl)
      · refine r_ldc2 (μ := mX12_change) (pc := 25) dX12_change_25 clX12_74 ?_
        refine r_goto (μ := mX12_change) (pc := 28) (tgt := 34) dX12_change_28 (by decide) ?_
        refine sP3 (μ := mX12_change) (pc := 34) (μ2 := mX12_isIn) dX12_change_34 lkX12_65 stX12_isIn mwX12_isIn (Nat.le_of_ble_eq_true rfl) (c_isInK il_0 il_99) ?_
        refine r_if_ne (μ := mX12_change) (pc := 37) (tgt := 43) dX12_change_37 (by decide) (fun h_37 => absurd (b2i_1 h_37) (fun q => (hb h_5 h_15).1 h_22 q)) (fun h_37 => ?_)
        refine r_ldc (μ := mX12_change) (pc := 40) dX12_change_40 ctX12_78 ?_
        exact r_iret (μ := mX12_change) (pc := 42) dX12_change_42 rfl rfl (PI_i rfl)

theorem c_change0 {d : Nat} {mi : MI} {mr : MR} (hM : MB mr) {n : Nat} (hn : mi 1 0 = nI n) (hn10 : n ≤ 10) {b : Nat} {v : Int32} (hb : b < n) (hv : inB v 0 99 = true) : CP (d + 2) mX12_change [.ref 0, .int (nI b), .int 0, .int v] shM mi mr 0 0 (PX shM mr (fun r mi2 => r = mi 1 (8 + 2 * b + 0) ∧ mi2 = upI mi 1 (8 + 2 * b + 0) v)) := by
  refine CP.of (L := [_, _, _, _]) (by decide) rfl rfl (Nat.le_of_ble_eq_true rfl) ?_
  refine r_aload_n (μ := mX12_change) (pc := 0) dX12_change_0 rfl rfl rfl ?_
  refine r_iload_n (μ := mX12_change) (pc := 1) dX12_change_1 rfl rfl ?_
  refine vP1 (μ := mX12_change) (pc := 2) (c0 := 12) (q0 := (RX12, TX12, 34)) (μ2 := mX12_isLedge) dX12_change_2 rfl rfl lkX12_84 imX12_isLedge seX12_X12_isLedge_X12_isLedge mwX12_isLedge (Nat.le_of_ble_eq_true rfl) (c_isLedge hM hn (by omega)) ?_
  refine r_if_eq (μ := mX12_change) (pc := 5) (tgt := 40) dX12_change_5 (by decide) (fun h_5 => absurd h_5 (b2i_ne (inR_nI hb (by omega)))) (fun h_5 => ?_)
  refine r_iload_n (μ := mX12_change) (pc := 8) dX12_change_8 rfl rfl ?_
  refine r_i2l (μ := mX12_change) (pc := 9) dX12_change_9 ?_
  refine r_lconst (μ := mX12_change) (pc := 10) (v := 0) dX12_change_10 lc_0 ?_
  refine r_lconst (μ := mX12_change) (pc := 11) (v := 1) dX12_change_11 lc_1 ?_
  refine sP3 (μ := mX12_change) (pc := 12) (μ2 := mX12_isIn) dX12_change_12 lkX12_65 stX12_isIn mwX12_isIn (Nat.le_of_ble_eq_true rfl) (c_isInK il_0 il_1) ?_
  refine r_if_eq (μ := mX12_change) (pc := 15) (tgt := 40) dX12_change_15 (by decide) (fun h_15 => absurd h_15 (b2i_ne inB01_0)) (fun h_15 => ?_)
  refine r_iload_n (μ := mX12_change) (pc := 18) dX12_change_18 rfl rfl ?_
  refine r_i2l (μ := mX12_change) (pc := 19) dX12_change_19 ?_
  refine r_lconst (μ := mX12_change) (pc := 20) (v := 0) dX12_change_20 lc_0 ?_
  refine r_iload_n (μ := mX12_change) (pc := 21) dX12_change_21 rfl rfl ?_
  refine r_if_ne (μ := mX12_change) (pc := 22) (tgt := 31) dX12_change_22 (by decide) (fun h_22 => absurd rfl h_22) (fun h_22 => ?_)
  refine r_ldc2 (μ := mX12_change) (pc := 25) dX12_change_25 clX12_74 ?_
  refine r_goto (μ := mX12_change) (pc := 28) (tgt := 34) dX12_change_28 (by decide) ?_
  refine sP3 (μ := mX12_change) (pc := 34) (μ2 := mX12_isIn) dX12_change_34 lkX12_65 stX12_isIn mwX12_isIn (Nat.le_of_ble_eq_true rfl) (c_isInK il_0 il_99) ?_
  refine r_if_ne (μ := mX12_change) (pc := 37) (tgt := 43) dX12_change_37 (by decide) (fun h_37 => ?_) (fun h_37 => absurd h_37 (b2i_ne hv))
  refine r_aload_n (μ := mX12_change) (pc := 43) dX12_change_43 rfl rfl rfl ?_
  refine r_bipush (μ := mX12_change) (pc := 44) (v := 8) dX12_change_44 bp_8 ?_
  refine r_iconst (μ := mX12_change) (pc := 46) (v := 2) dX12_change_46 ic_2 ?_
  refine r_iload_n (μ := mX12_change) (pc := 47) dX12_change_47 rfl rfl ?_
  refine r_imul (μ := mX12_change) (pc := 48) dX12_change_48 ?_
  refine r_iadd (μ := mX12_change) (pc := 49) dX12_change_49 ?_
  refine r_iload_n (μ := mX12_change) (pc := 50) dX12_change_50 rfl rfl ?_
  refine r_iadd (μ := mX12_change) (pc := 51) dX12_change_51 ?_
  refine r_iload_n (μ := mX12_change) (pc := 52) dX12_change_52 rfl rfl ?_
  refine vX2 (μ := mX12_change) (pc := 53) (c0 := 12) (q0 := (RX12, TX12, 34)) (μ2 := mX12_becomes) dX12_change_53 rfl rfl lkX12_97 imX12_becomes seX12_X12_becomes_X12_becomes mwX12_becomes (Nat.le_of_ble_eq_true rfl) (c_becomesE hM (k := 8 + 2 * b + 0) (by simp only [← nI_add, ← pk_mul]; rfl) (by omega)) (fun r_53 mi_53 h_53 => ?_)
  exact r_iret (μ := mX12_change) (pc := 56) dX12_change_56 rfl rfl (PX_i h_53)

theorem c_change1 {d : Nat} {mi : MI} {mr : MR} (hM : MB mr) {n : Nat} (hn : mi 1 0 = nI n) (hn10 : n ≤ 10) {b : Nat} {v : Int32} (hb : b < n) (hv : inB v 0 29 = true) : CP (d + 2) mX12_change [.ref 0, .int (nI b), .int 1, .int v] shM mi mr 0 0 (PX shM mr (fun r mi2 => r = mi 1 (8 + 2 * b + 1) ∧ mi2 = upI mi 1 (8 + 2 * b + 1) v)) := by
  refine CP.of (L := [_, _, _, _]) (by decide) rfl rfl (Nat.le_of_ble_eq_true rfl) ?_
  refine r_aload_n (μ := mX12_change) (pc := 0) dX12_change_0 rfl rfl rfl ?_
  refine r_iload_n (μ := mX12_change) (pc := 1) dX12_change_1 rfl rfl ?_
  refine vP1 (μ := mX12_change) (pc := 2) (c0 := 12) (q0 := (RX12, TX12, 34)) (μ2 := mX12_isLedge) dX12_change_2 rfl rfl lkX12_84 imX12_isLedge seX12_X12_isLedge_X12_isLedge mwX12_isLedge (Nat.le_of_ble_eq_true rfl) (c_isLedge hM hn (by omega)) ?_
  refine r_if_eq (μ := mX12_change) (pc := 5) (tgt := 40) dX12_change_5 (by decide) (fun h_5 => absurd h_5 (b2i_ne (inR_nI hb (by omega)))) (fun h_5 => ?_)
  refine r_iload_n (μ := mX12_change) (pc := 8) dX12_change_8 rfl rfl ?_
  refine r_i2l (μ := mX12_change) (pc := 9) dX12_change_9 ?_
  refine r_lconst (μ := mX12_change) (pc := 10) (v := 0) dX12_change_10 lc_0 ?_
  refine r_lconst (μ := mX12_change) (pc := 11) (v := 1) dX12_change_11 lc_1 ?_
  refine sP3 (μ := mX12_change) (pc := 12) (μ2 := mX12_isIn) dX12_change_12 lkX12_65 stX12_isIn mwX12_isIn (Nat.le_of_ble_eq_true rfl) (c_isInK il_0 il_1) ?_
  refine r_if_eq (μ := mX12_change) (pc := 15) (tgt := 40) dX12_change_15 (by decide) (fun h_15 => absurd h_15 (b2i_ne inB01_1)) (fun h_15 => ?_)
  refine r_iload_n (μ := mX12_change) (pc := 18) dX12_change_18 rfl rfl ?_
  refine r_i2l (μ := mX12_change) (pc := 19) dX12_change_19 ?_
  refine r_lconst (μ := mX12_change) (pc := 20) (v := 0) dX12_change_20 lc_0 ?_
  refine r_iload_n (μ := mX12_change) (pc := 21) dX12_change_21 rfl rfl ?_
  refine r_if_ne (μ := mX12_change) (pc := 22) (tgt := 31) dX12_change_22 (by decide) (fun h_22 => ?_) (fun h_22 => absurd h_22 (by decide))
  refine r_ldc2 (μ := mX12_change) (pc := 31) dX12_change_31 clX12_76 ?_
  refine sP3 (μ := mX12_change) (pc := 34) (μ2 := mX12_isIn) dX12_change_34 lkX12_65 stX12_isIn mwX12_isIn (Nat.le_of_ble_eq_true rfl) (c_isInK il_0 il_29) ?_
  refine r_if_ne (μ := mX12_change) (pc := 37) (tgt := 43) dX12_change_37 (by decide) (fun h_37 => ?_) (fun h_37 => absurd h_37 (b2i_ne hv))
  refine r_aload_n (μ := mX12_change) (pc := 43) dX12_change_43 rfl rfl rfl ?_
  refine r_bipush (μ := mX12_change) (pc := 44) (v := 8) dX12_change_44 bp_8 ?_
  refine r_iconst (μ := mX12_change) (pc := 46) (v := 2) dX12_change_46 ic_2 ?_
  refine r_iload_n (μ := mX12_change) (pc := 47) dX12_change_47 rfl rfl ?_
  refine r_imul (μ := mX12_change) (pc := 48) dX12_change_48 ?_
  refine r_iadd (μ := mX12_change) (pc := 49) dX12_change_49 ?_
  refine r_iload_n (μ := mX12_change) (pc := 50) dX12_change_50 rfl rfl ?_
  refine r_iadd (μ := mX12_change) (pc := 51) dX12_change_51 ?_
  refine r_iload_n (μ := mX12_change) (pc := 52) dX12_change_52 rfl rfl ?_
  refine vX2 (μ := mX12_change) (pc := 53) (c0 := 12) (q0 := (RX12, TX12, 34)) (μ2 := mX12_becomes) dX12_change_53 rfl rfl lkX12_97 imX12_becomes seX12_X12_becomes_X12_becomes mwX12_becomes (Nat.le_of_ble_eq_true rfl) (c_becomesE hM (k := 8 + 2 * b + 1) (by simp only [← nI_add, ← pk_mul]; rfl) (by omega)) (fun r_53 mi_53 h_53 => ?_)
  exact r_iret (μ := mX12_change) (pc := 56) dX12_change_56 rfl rfl (PX_i h_53)

