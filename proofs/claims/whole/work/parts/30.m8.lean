theorem ngtsR_ok {s : Rw} {n m p q : Nat} (h : Inv s n m p q) : ∀ k, Inv (ngtsR s q n m k).1 n m p q ∧ RelS s (ngtsR s q n m k).1 ∧ (ngtsR s q n m k).2 ≤ 8 * k
  | 0 => ⟨h, RelS.rf s, Nat.le_refl _⟩
  | k + 1 => by
    obtain ⟨h1, h2, h3⟩ := ngtsR_ok h k
    have h4 := (ngtR_ok h1 m (Nat.le_refl _)).2.2
    have hm8 := h.m8
    exact ⟨(nightR_ok h1).1, h2.tr (nightR_ok h1).2, by show (ngtsR s q n m k).2 + _ ≤ _; omega⟩

theorem c_nights_bad {d : Nat} {mi : MI} {mr : MR} (hM : MB mr) {s : Rw} (hs : mi 1 = s) {n m p q : Nat} (hI : Inv s n m p q) {x : Int32} (hb : ¬ inB x 1 30 = true) : CP (d + 2) mX12_nights [.ref 0, .int x] shM mi mr 0 0 (PI (BADc) shM mi mr) := by
  refine CP.of (L := [_, _, _, _]) (by decide) rfl rfl (Nat.le_of_ble_eq_true rfl) ?_
  refine r_iload_n (μ := mX12_nights) (pc := 0) dX12_nights_0 rfl rfl ?_
  refine r_i2l (μ := mX12_nights) (pc := 1) dX12_nights_1 ?_
  refine r_lconst (μ := mX12_nights) (pc := 2) (v := 1) dX12_nights_2 lc_1 ?_
  refine r_ldc2 (μ := mX12_nights) (pc := 3) dX12_nights_3 clX12_171 ?_
  refine sP3 (μ := mX12_nights) (pc := 6) (μ2 := mX12_isIn) dX12_nights_6 lkX12_65 stX12_isIn mwX12_isIn (Nat.le_of_ble_eq_true rfl) (c_isInK il_1 il_30) ?_
  refine r_if_ne (μ := mX12_nights) (pc := 9) (tgt := 15) dX12_nights_9 (by decide) (fun h_9 => ?_) (fun h_9 => ?_)
  · have h_9 := b2i_1 h_9
    exact absurd h_9 hb
  · have h_9 := b2i_0 h_9
    refine r_ldc (μ := mX12_nights) (pc := 12) dX12_nights_12 ctX12_78 ?_
    exact r_iret (μ := mX12_nights) (pc := 14) dX12_nights_14 rfl rfl (PI_i rfl)

theorem lp_nights {d : Nat} {mi : MI} {mr : MR} {Q : QT} (hM : MB mr) {s : Rw} {n m p q K : Nat} (hI : Inv s n m p q) (hK : K ≤ 30) (hs : mi 1 = s) (hq : ∀ mi2, SR mi mi2 (ngtsR s q n m K).1 → Q (some (.int (nI (ngtsR s q n m K).2))) shM mi2 mr) :
    ∀ (k i : Nat), i + k = K → ∀ mi2, SR mi mi2 (ngtsR s q n m i).1 → WP (d + 5) mX12_nights 19 [.ref 0, .int (nI K), .int (nI (ngtsR s q n m i).2), .int (nI i)] [] shM mi2 mr 0 0 Q := by
  intro k
  induction k with
  | zero =>
    intro i hk mi2 hS
    obtain rfl : i = K := by omega
    refine r_iload_n (μ := mX12_nights) (pc := 19) dX12_nights_19 rfl rfl ?_
    refine r_iload_n (μ := mX12_nights) (pc := 20) dX12_nights_20 rfl rfl ?_
    refine r_icmp_ge (μ := mX12_nights) (pc := 21) (tgt := 37) dX12_nights_21 (by decide) (fun h_21 => ?_) (fun h_21 => absurd (nI_le (Nat.le_refl _) (by omega)) h_21)
    refine r_iload_n (μ := mX12_nights) (pc := 37) dX12_nights_37 rfl rfl ?_
    exact r_iret (μ := mX12_nights) (pc := 38) dX12_nights_38 rfl rfl (hq _ hS)
  | succ k ih =>
    intro i hk mi2 hS
    refine r_iload_n (μ := mX12_nights) (pc := 19) dX12_nights_19 rfl rfl ?_
    refine r_iload_n (μ := mX12_nights) (pc := 20) dX12_nights_20 rfl rfl ?_
    refine r_icmp_ge (μ := mX12_nights) (pc := 21) (tgt := 37) dX12_nights_21 (by decide) (fun h_21 => absurd h_21 (nI_ge (by omega) (by omega))) (fun h_21 => ?_)
    refine r_iload_n (μ := mX12_nights) (pc := 24) dX12_nights_24 rfl rfl ?_
    refine r_aload_n (μ := mX12_nights) (pc := 25) dX12_nights_25 rfl rfl rfl ?_
    refine vX0 (μ := mX12_nights) (pc := 26) (c0 := 12) (q0 := (RX12, TX12, 34)) (μ2 := mX12_night) dX12_nights_26 rfl rfl lkX12_173 imX12_night seX12_X12_night_X12_night mwX12_night (Nat.le_of_ble_eq_true rfl) (c_night hM hS.1 (ngtsR_ok hI i).1) (fun r_26 mi_26 h_26 => ?_)
    obtain ⟨rfl, h26⟩ := h_26
    refine r_iadd (μ := mX12_nights) (pc := 29) dX12_nights_29 ?_
    refine s_istore_n (μ := mX12_nights) (pc := 30) (L2 := [_, _, _, _]) dX12_nights_30 rfl (Nat.le_of_ble_eq_true rfl) (Nat.le_of_ble_eq_true rfl) rfl rfl ?_
    refine s_iinc (μ := mX12_nights) (pc := 31) (c := 1) (L2 := [_, _, _, _]) dX12_nights_31 rfl ic_1 (Nat.le_of_ble_eq_true rfl) rfl rfl ?_
    refine r_goto (μ := mX12_nights) (pc := 34) (tgt := 19) dX12_nights_34 (by decide) ?_
    exact WP.L (by rw [nI_add, nI_succ]; rfl) (ih (i + 1) (by omega) _ (hS.tr h26))

theorem c_nights {d : Nat} {mi : MI} {mr : MR} (hM : MB mr) {s : Rw} (hs : mi 1 = s) {n m p q : Nat} (hI : Inv s n m p q) {K : Nat} (h1 : 1 ≤ K) (hK : K ≤ 30) : CP (d + 5) mX12_nights [.ref 0, .int (nI K)] shM mi mr 0 0 (PX shM mr (fun r mi2 => r = nI (ngtsR s q n m K).2 ∧ SR mi mi2 (ngtsR s q n m K).1)) := by
  refine CP.of (L := [_, _, _, _]) (by decide) rfl rfl (Nat.le_of_ble_eq_true rfl) ?_
  refine r_iload_n (μ := mX12_nights) (pc := 0) dX12_nights_0 rfl rfl ?_
  refine r_i2l (μ := mX12_nights) (pc := 1) dX12_nights_1 ?_
  refine r_lconst (μ := mX12_nights) (pc := 2) (v := 1) dX12_nights_2 lc_1 ?_
  refine r_ldc2 (μ := mX12_nights) (pc := 3) dX12_nights_3 clX12_171 ?_
  refine sP3 (μ := mX12_nights) (pc := 6) (μ2 := mX12_isIn) dX12_nights_6 lkX12_65 stX12_isIn mwX12_isIn (Nat.le_of_ble_eq_true rfl) (c_isInK il_1 il_30) ?_
  refine r_if_ne (μ := mX12_nights) (pc := 9) (tgt := 15) dX12_nights_9 (by decide) (fun h_9 => ?_) (fun h_9 => absurd h_9 (b2i_ne (inB_nI (by omega) (by omega))))
  refine r_iconst (μ := mX12_nights) (pc := 15) (v := 0) dX12_nights_15 ic_0 ?_
  refine s_istore_n (μ := mX12_nights) (pc := 16) (L2 := [_, _, _, _]) dX12_nights_16 rfl (Nat.le_of_ble_eq_true rfl) (Nat.le_of_ble_eq_true rfl) rfl rfl ?_
  refine r_iconst (μ := mX12_nights) (pc := 17) (v := 0) dX12_nights_17 ic_0 ?_
  refine s_istore_n (μ := mX12_nights) (pc := 18) (L2 := [_, _, _, _]) dX12_nights_18 rfl (Nat.le_of_ble_eq_true rfl) (Nat.le_of_ble_eq_true rfl) rfl rfl ?_
  exact lp_nights hM hI hK hs (fun mi2 h => PX_i ⟨rfl, h⟩) K 0 (Nat.zero_add _) mi (SR.rf hs)

theorem lp_standing {d : Nat} {mi : MI} {mr : MR} {Q : QT} (hM : MB mr) {s : Rw} {n m p q : Nat} (hI : Inv s n m p q) (hs : mi 1 = s) (hq : ∀ mi2, SB mi mi2 → Q (some (.int (nI (cntB (stdS s q) m)))) shM mi2 mr) :
    ∀ (k i : Nat), i + k = m → ∀ mi2, SB mi mi2 → WP (d + 5) mX12_standing 4 [.ref 0, .int (nI (cntB (stdS s q) i)), .int (nI i)] [] shM mi2 mr 0 0 Q := by
  have hm8 := hI.m8
  intro k
  induction k with
  | zero =>
    intro i hk mi2 hS
    obtain rfl : i = m := by omega
    refine r_iload_n (μ := mX12_standing) (pc := 4) dX12_standing_4 rfl rfl ?_
    refine r_aload_n (μ := mX12_standing) (pc := 5) dX12_standing_5 rfl rfl rfl ?_
    refine r_getR (μ := mX12_standing) (pc := 6) dX12_standing_6 fpX12_7 rfl rfl (by decide) (hM _ _ rfl) ?_
    refine r_iconst (μ := mX12_standing) (pc := 9) (v := 1) dX12_standing_9 ic_1 ?_
    refine r_iaload (μ := mX12_standing) (pc := 10) (j := 1) dX12_standing_10 rfl rfl (by decide) (by decide) ?_
    rw [hS.r1, hs, hI.em]
    refine r_icmp_ge (μ := mX12_standing) (pc := 11) (tgt := 36) dX12_standing_11 (by decide) (fun h_11 => ?_) (fun h_11 => absurd (nI_le (Nat.le_refl _) (by omega)) h_11)
    refine r_iload_n (μ := mX12_standing) (pc := 36) dX12_standing_36 rfl rfl ?_
    exact r_iret (μ := mX12_standing) (pc := 37) dX12_standing_37 rfl rfl (hq _ hS)
  | succ k ih =>
    intro i hk mi2 hS
    refine r_iload_n (μ := mX12_standing) (pc := 4) dX12_standing_4 rfl rfl ?_
    refine r_aload_n (μ := mX12_standing) (pc := 5) dX12_standing_5 rfl rfl rfl ?_
    refine r_getR (μ := mX12_standing) (pc := 6) dX12_standing_6 fpX12_7 rfl rfl (by decide) (hM _ _ rfl) ?_
    refine r_iconst (μ := mX12_standing) (pc := 9) (v := 1) dX12_standing_9 ic_1 ?_
    refine r_iaload (μ := mX12_standing) (pc := 10) (j := 1) dX12_standing_10 rfl rfl (by decide) (by decide) ?_
    rw [hS.r1, hs, hI.em]
    refine r_icmp_ge (μ := mX12_standing) (pc := 11) (tgt := 36) dX12_standing_11 (by decide) (fun h_11 => absurd h_11 (nI_ge (by omega) (by omega))) (fun h_11 => ?_)
    refine r_iload_n (μ := mX12_standing) (pc := 14) dX12_standing_14 rfl rfl ?_
    refine r_aload_n (μ := mX12_standing) (pc := 15) dX12_standing_15 rfl rfl rfl ?_
    refine r_iload_n (μ := mX12_standing) (pc := 16) dX12_standing_16 rfl rfl ?_
    refine vX1 (μ := mX12_standing) (pc := 17) (c0 := 12) (q0 := (RX12, TX12, 34)) (μ2 := mX12_stands) dX12_standing_17 rfl rfl lkX12_143 imX12_stands seX12_X12_stands_X12_stands mwX12_stands (Nat.le_of_ble_eq_true rfl) (c_stands hM (hS.r1.trans hs) hI (by omega)) (fun r_17 mi_17 h_17 => ?_)
    obtain ⟨rfl, h17⟩ := h_17
    refine r_if_eq (μ := mX12_standing) (pc := 20) (tgt := 27) dX12_standing_20 (by decide) (fun h_20 => ?_) (fun h_20 => ?_)
    · have h_20 := b2i_0 h_20
      refine r_iconst (μ := mX12_standing) (pc := 27) (v := 0) dX12_standing_27 ic_0 ?_
      refine r_iadd (μ := mX12_standing) (pc := 28) dX12_standing_28 ?_
      refine s_istore_n (μ := mX12_standing) (pc := 29) (L2 := [_, _, _]) dX12_standing_29 rfl (Nat.le_of_ble_eq_true rfl) (Nat.le_of_ble_eq_true rfl) rfl rfl ?_
      refine s_iinc (μ := mX12_standing) (pc := 30) (c := 1) (L2 := [_, _, _]) dX12_standing_30 rfl ic_1 (Nat.le_of_ble_eq_true rfl) rfl rfl ?_
      refine r_goto (μ := mX12_standing) (pc := 33) (tgt := 4) dX12_standing_33 (by decide) ?_
      exact WP.L (by simp [cntB, nI_succ, h_20]) (ih (i + 1) (by omega) _ (hS.tr h17))
    · have h_20 := b2i_1 h_20
      refine r_iconst (μ := mX12_standing) (pc := 23) (v := 1) dX12_standing_23 ic_1 ?_
      refine r_goto (μ := mX12_standing) (pc := 24) (tgt := 28) dX12_standing_24 (by decide) ?_
      refine r_iadd (μ := mX12_standing) (pc := 28) dX12_standing_28 ?_
      refine s_istore_n (μ := mX12_standing) (pc := 29) (L2 := [_, _, _]) dX12_standing_29 rfl (Nat.le_of_ble_eq_true rfl) (Nat.le_of_ble_eq_true rfl) rfl rfl ?_
      refine s_iinc (μ := mX12_standing) (pc := 30) (c := 1) (L2 := [_, _, _]) dX12_standing_30 rfl ic_1 (Nat.le_of_ble_eq_true rfl) rfl rfl ?_
      refine r_goto (μ := mX12_standing) (pc := 33) (tgt := 4) dX12_standing_33 (by decide) ?_
      exact WP.L (by simp [cntB, nI_succ, h_20]) (ih (i + 1) (by omega) _ (hS.tr h17))

theorem c_standing {d : Nat} {mi : MI} {mr : MR} (hM : MB mr) {s : Rw} (hs : mi 1 = s) {n m p q : Nat} (hI : Inv s n m p q) : CP (d + 5) mX12_standing [.ref 0] shM mi mr 0 0 (PX shM mr (fun r mi2 => r = nI (cntB (stdS s q) m) ∧ SB mi mi2)) := by
  refine CP.of (L := [_, _, _]) (by decide) rfl rfl (Nat.le_of_ble_eq_true rfl) ?_
  refine r_iconst (μ := mX12_standing) (pc := 0) (v := 0) dX12_standing_0 ic_0 ?_
  refine s_istore_n (μ := mX12_standing) (pc := 1) (L2 := [_, _, _]) dX12_standing_1 rfl (Nat.le_of_ble_eq_true rfl) (Nat.le_of_ble_eq_true rfl) rfl rfl ?_
  refine r_iconst (μ := mX12_standing) (pc := 2) (v := 0) dX12_standing_2 ic_0 ?_
  refine s_istore_n (μ := mX12_standing) (pc := 3) (L2 := [_, _, _]) dX12_standing_3 rfl (Nat.le_of_ble_eq_true rfl) (Nat.le_of_ble_eq_true rfl) rfl rfl ?_
  exact lp_standing hM hI hs (fun mi2 h => PX_i ⟨rfl, h⟩) m 0 (Nat.zero_add _) mi (SB.rf mi)

theorem lp_movedMany {d : Nat} {mi : MI} {mr : MR} {Q : QT} (hM : MB mr) {s : Rw} (hs : mi 1 = s) {n m p q : Nat} (hI : Inv s n m p q) (hq : Q (some (.int (nI (cntB (fun l => decide (mvd s l = 1)) m)))) shM mi mr) : ∀ (k : Nat) (i : Nat), i + k = m → WP (d + 1) mX12_movedMany 4 [.ref 0, .int (nI (cntB (fun l => decide (mvd s l = 1)) i)), .int (nI i)] [] shM mi mr 0 0 Q := by
  intro k
  induction k with
  | zero =>
    intro i hk
    refine r_iload_n (μ := mX12_movedMany) (pc := 4) dX12_movedMany_4 rfl rfl ?_
    refine r_aload_n (μ := mX12_movedMany) (pc := 5) dX12_movedMany_5 rfl rfl rfl ?_
    refine r_getR (μ := mX12_movedMany) (pc := 6) dX12_movedMany_6 fpX12_7 rfl rfl (by decide) (hM _ _ rfl) ?_
    refine r_iconst (μ := mX12_movedMany) (pc := 9) (v := 1) dX12_movedMany_9 ic_1 ?_
    refine r_iaload (μ := mX12_movedMany) (pc := 10) (j := 1) dX12_movedMany_10 rfl rfl (by decide) (by decide) ?_
    rw [hs, hI.em]
    refine r_icmp_ge (μ := mX12_movedMany) (pc := 11) (tgt := 29) dX12_movedMany_11 (by decide) (fun h_11 => ?_) (fun h_11 => absurd (nI_le (by omega) (by have := hI.m8; omega)) h_11)
    obtain rfl : i = m := by omega
    refine r_iload_n (μ := mX12_movedMany) (pc := 29) dX12_movedMany_29 rfl rfl ?_
    exact r_iret (μ := mX12_movedMany) (pc := 30) dX12_movedMany_30 rfl rfl hq
  | succ k ih =>
    intro i hk
    refine r_iload_n (μ := mX12_movedMany) (pc := 4) dX12_movedMany_4 rfl rfl ?_
    refine r_aload_n (μ := mX12_movedMany) (pc := 5) dX12_movedMany_5 rfl rfl rfl ?_
    refine r_getR (μ := mX12_movedMany) (pc := 6) dX12_movedMany_6 fpX12_7 rfl rfl (by decide) (hM _ _ rfl) ?_
    refine r_iconst (μ := mX12_movedMany) (pc := 9) (v := 1) dX12_movedMany_9 ic_1 ?_
    refine r_iaload (μ := mX12_movedMany) (pc := 10) (j := 1) dX12_movedMany_10 rfl rfl (by decide) (by decide) ?_
    rw [hs, hI.em]
    refine r_icmp_ge (μ := mX12_movedMany) (pc := 11) (tgt := 29) dX12_movedMany_11 (by decide) (fun h_11 => absurd h_11 (nI_ge (by omega) (by have := hI.m8; omega))) (fun h_11 => ?_)
    refine r_iload_n (μ := mX12_movedMany) (pc := 14) dX12_movedMany_14 rfl rfl ?_
    refine r_aload_n (μ := mX12_movedMany) (pc := 15) dX12_movedMany_15 rfl rfl rfl ?_
    refine r_iload_n (μ := mX12_movedMany) (pc := 16) dX12_movedMany_16 rfl rfl ?_
    refine r_iconst (μ := mX12_movedMany) (pc := 17) (v := 4) dX12_movedMany_17 ic_4 ?_
    refine vP2 (μ := mX12_movedMany) (pc := 18) (c0 := 12) (q0 := (RX12, TX12, 34)) (μ2 := mX12_of) dX12_movedMany_18 rfl rfl lkX12_90 imX12_of seX12_X12_of_X12_of mwX12_of (Nat.le_of_ble_eq_true rfl) (e_of hM hs (by have := hI.m8; omega) (by decide)) ?_
    refine r_iadd (μ := mX12_movedMany) (pc := 21) dX12_movedMany_21 ?_
    refine s_istore_n (μ := mX12_movedMany) (pc := 22) (L2 := [_, _, _]) dX12_movedMany_22 rfl (Nat.le_of_ble_eq_true rfl) (Nat.le_of_ble_eq_true rfl) rfl rfl ?_
    refine s_iinc (μ := mX12_movedMany) (pc := 23) (c := 1) (L2 := [_, _, _]) dX12_movedMany_23 rfl ic_1 (Nat.le_of_ble_eq_true rfl) rfl rfl ?_
    refine r_goto (μ := mX12_movedMany) (pc := 26) (tgt := 4) dX12_movedMany_26 (by decide) ?_
    have hz := hI.mv (show i < m by omega)
    have hz2 : s (28 + 5 * i + 4) = mvd s i := rfl
    exact WP.L (by rw [hz2]; rcases hz with hz | hz <;> simp [cntB, nI_succ, hz]) (ih (i + 1) (by omega))

theorem c_movedMany {d : Nat} {mi : MI} {mr : MR} (hM : MB mr) {s : Rw} (hs : mi 1 = s) {n m p q : Nat} (hI : Inv s n m p q) : CP (d + 1) mX12_movedMany [.ref 0] shM mi mr 0 0 (PI (nI (cntB (fun l => decide (mvd s l = 1)) m)) shM mi mr) := by
  refine CP.of (L := [_, _, _]) (by decide) rfl rfl (Nat.le_of_ble_eq_true rfl) ?_
  refine r_iconst (μ := mX12_movedMany) (pc := 0) (v := 0) dX12_movedMany_0 ic_0 ?_
  refine s_istore_n (μ := mX12_movedMany) (pc := 1) (L2 := [_, _, _]) dX12_movedMany_1 rfl (Nat.le_of_ble_eq_true rfl) (Nat.le_of_ble_eq_true rfl) rfl rfl ?_
  refine r_iconst (μ := mX12_movedMany) (pc := 2) (v := 0) dX12_movedMany_2 ic_0 ?_
  refine s_istore_n (μ := mX12_movedMany) (pc := 3) (L2 := [_, _, _]) dX12_movedMany_3 rfl (Nat.le_of_ble_eq_true rfl) (Nat.le_of_ble_eq_true rfl) rfl rfl ?_
  exact lp_movedMany hM hs hI (PI_i rfl) m 0 (Nat.zero_add _)

theorem c_told_bad {d : Nat} {mi : MI} {mr : MR} (hM : MB mr) {s : Rw} (hs : mi 1 = s) {n m p q : Nat} (hI : Inv s n m p q) {x y : Int32} (hb : ¬ (inR x m = true ∧ inB y 0 9 = true)) : CP (d + 2) mX12_told [.ref 0, .int x, .int y] shM mi mr 0 0 (PI (BADc) shM mi mr) := by
  refine CP.of (L := [_, _, _]) (by decide) rfl rfl (Nat.le_of_ble_eq_true rfl) ?_
  refine r_aload_n (μ := mX12_told) (pc := 0) dX12_told_0 rfl rfl rfl ?_
  refine r_iload_n (μ := mX12_told) (pc := 1) dX12_told_1 rfl rfl ?_
  refine vP1 (μ := mX12_told) (pc := 2) (c0 := 12) (q0 := (RX12, TX12, 34)) (μ2 := mX12_isLadder) dX12_told_2 rfl rfl lkX12_137 imX12_isLadder seX12_X12_isLadder_X12_isLadder mwX12_isLadder (Nat.le_of_ble_eq_true rfl) (e_isLadder hM hs hI) ?_
  refine r_if_ne (μ := mX12_told) (pc := 5) (tgt := 11) dX12_told_5 (by decide) (fun h_5 => ?_) (fun h_5 => ?_)
  · have h_5 := b2i_1 h_5
    refine r_iload_n (μ := mX12_told) (pc := 11) dX12_told_11 rfl rfl ?_
    refine r_tabOut (μ := mX12_told) (pc := 12) (tgt := 120) dX12_told_12 (by have hq : ¬ inB y 0 9 = true := fun q => hb ⟨h_5, q⟩; simp only [inB, decide_eq_true_eq] at hq; omega) (by decide) ?_
    refine r_ldc (μ := mX12_told) (pc := 120) dX12_told_120 ctX12_78 ?_
    exact r_iret (μ := mX12_told) (pc := 122) dX12_told_122 rfl rfl (PI_i rfl)
  · have h_5 := b2i_0 h_5
    refine r_ldc (μ := mX12_told) (pc := 8) dX12_told_8 ctX12_78 ?_
    exact r_iret (μ := mX12_told) (pc := 10) dX12_told_10 rfl rfl (PI_i rfl)

def toldS (s : Rw) (n q l w : Nat) : Int32 :=
  if w < 4 then s (28 + 5 * l + w) else if w = 4 then rchK (knd s l) (lng s l) else if w = 5 then mntN s l (tN s l) (fN s l) else if w = 6 then b2i (stdS s q l) else if w = 7 then mvd s l else if w = 8 then wthK (knd s l) (lng s l) else bitsB (rchS s q l) n
theorem c_told4 : True := trivial

theorem c_told {d : Nat} {mi : MI} {mr : MR} (hM : MB mr) {s : Rw} (hs : mi 1 = s) {n m p q : Nat} (hI : Inv s n m p q) {l w : Nat} (hl : l < m) (hw : w < 10) : CP (d + 5) mX12_told [.ref 0, .int (nI l), .int (nI w)] shM mi mr 0 0 (PX shM mr (fun r mi2 => r = toldS s n q l w ∧ SB mi mi2)) := by
  have hn10 := hI.n10; have hm8 := hI.m8; have hp6 := hI.p6; have hq14 := hI.q14
  have hw9 : w = 0 ∨ w = 1 ∨ w = 2 ∨ w = 3 ∨ w = 4 ∨ w = 5 ∨ w = 6 ∨ w = 7 ∨ w = 8 ∨ w = 9 := by omega
  refine CP.of (L := [_, _, _]) (by decide) rfl rfl (Nat.le_of_ble_eq_true rfl) ?_
  refine r_aload_n (μ := mX12_told) (pc := 0) dX12_told_0 rfl rfl rfl ?_
  refine r_iload_n (μ := mX12_told) (pc := 1) dX12_told_1 rfl rfl ?_
  refine vP1 (μ := mX12_told) (pc := 2) (c0 := 12) (q0 := (RX12, TX12, 34)) (μ2 := mX12_isLadder) dX12_told_2 rfl rfl lkX12_137 imX12_isLadder seX12_X12_isLadder_X12_isLadder mwX12_isLadder (Nat.le_of_ble_eq_true rfl) (e_isLadder hM hs hI) ?_
  refine r_if_ne (μ := mX12_told) (pc := 5) (tgt := 11) dX12_told_5 (by decide) (fun h_5 => ?_) (fun h_5 => absurd h_5 (b2i_ne (inR_nI hl (by omega))))
  refine r_iload_n (μ := mX12_told) (pc := 11) dX12_told_11 rfl rfl ?_
  rcases hw9 with rfl | rfl | rfl | rfl | rfl | rfl | rfl | rfl | rfl | rfl
  · refine r_tabIn (μ := mX12_told) (pc := 12) (tgt := 68) dX12_told_12 (by decide) (by decide) rfl (by decide) ?_
    refine r_aload_n (μ := mX12_told) (pc := 68) dX12_told_68 rfl rfl rfl ?_
    refine r_iload_n (μ := mX12_told) (pc := 69) dX12_told_69 rfl rfl ?_
    refine r_iload_n (μ := mX12_told) (pc := 70) dX12_told_70 rfl rfl ?_
    refine vP2 (μ := mX12_told) (pc := 71) (c0 := 12) (q0 := (RX12, TX12, 34)) (μ2 := mX12_of) dX12_told_71 rfl rfl lkX12_90 imX12_of seX12_X12_of_X12_of mwX12_of (Nat.le_of_ble_eq_true rfl) (e_of hM hs (by omega) (by decide)) ?_
    exact r_iret (μ := mX12_told) (pc := 74) dX12_told_74 rfl rfl (PX_i ⟨rfl, SB.rf mi⟩)
  · refine r_tabIn (μ := mX12_told) (pc := 12) (tgt := 68) dX12_told_12 (by decide) (by decide) rfl (by decide) ?_
    refine r_aload_n (μ := mX12_told) (pc := 68) dX12_told_68 rfl rfl rfl ?_
    refine r_iload_n (μ := mX12_told) (pc := 69) dX12_told_69 rfl rfl ?_
    refine r_iload_n (μ := mX12_told) (pc := 70) dX12_told_70 rfl rfl ?_
    refine vP2 (μ := mX12_told) (pc := 71) (c0 := 12) (q0 := (RX12, TX12, 34)) (μ2 := mX12_of) dX12_told_71 rfl rfl lkX12_90 imX12_of seX12_X12_of_X12_of mwX12_of (Nat.le_of_ble_eq_true rfl) (e_of hM hs (by omega) (by decide)) ?_
    exact r_iret (μ := mX12_told) (pc := 74) dX12_told_74 rfl rfl (PX_i ⟨rfl, SB.rf mi⟩)
  · refine r_tabIn (μ := mX12_told) (pc := 12) (tgt := 68) dX12_told_12 (by decide) (by decide) rfl (by decide) ?_
    refine r_aload_n (μ := mX12_told) (pc := 68) dX12_told_68 rfl rfl rfl ?_
    refine r_iload_n (μ := mX12_told) (pc := 69) dX12_told_69 rfl rfl ?_
    refine r_iload_n (μ := mX12_told) (pc := 70) dX12_told_70 rfl rfl ?_
    refine vP2 (μ := mX12_told) (pc := 71) (c0 := 12) (q0 := (RX12, TX12, 34)) (μ2 := mX12_of) dX12_told_71 rfl rfl lkX12_90 imX12_of seX12_X12_of_X12_of mwX12_of (Nat.le_of_ble_eq_true rfl) (e_of hM hs (by omega) (by decide)) ?_
    exact r_iret (μ := mX12_told) (pc := 74) dX12_told_74 rfl rfl (PX_i ⟨rfl, SB.rf mi⟩)
  · refine r_tabIn (μ := mX12_told) (pc := 12) (tgt := 68) dX12_told_12 (by decide) (by decide) rfl (by decide) ?_
    refine r_aload_n (μ := mX12_told) (pc := 68) dX12_told_68 rfl rfl rfl ?_
    refine r_iload_n (μ := mX12_told) (pc := 69) dX12_told_69 rfl rfl ?_
    refine r_iload_n (μ := mX12_told) (pc := 70) dX12_told_70 rfl rfl ?_
    refine vP2 (μ := mX12_told) (pc := 71) (c0 := 12) (q0 := (RX12, TX12, 34)) (μ2 := mX12_of) dX12_told_71 rfl rfl lkX12_90 imX12_of seX12_X12_of_X12_of mwX12_of (Nat.le_of_ble_eq_true rfl) (e_of hM hs (by omega) (by decide)) ?_
    exact r_iret (μ := mX12_told) (pc := 74) dX12_told_74 rfl rfl (PX_i ⟨rfl, SB.rf mi⟩)
  · refine r_tabIn (μ := mX12_told) (pc := 12) (tgt := 75) dX12_told_12 (by decide) (by decide) rfl (by decide) ?_
    refine r_aload_n (μ := mX12_told) (pc := 75) dX12_told_75 rfl rfl rfl ?_
    refine r_iload_n (μ := mX12_told) (pc := 76) dX12_told_76 rfl rfl ?_
    refine vP1 (μ := mX12_told) (pc := 77) (c0 := 12) (q0 := (RX12, TX12, 34)) (μ2 := mX12_reach) dX12_told_77 rfl rfl lkX12_130 imX12_reach seX12_X12_reach_X12_reach mwX12_reach (Nat.le_of_ble_eq_true rfl) (e_reach hM hs hI hl) ?_
    exact r_iret (μ := mX12_told) (pc := 80) dX12_told_80 rfl rfl (PX_i ⟨rfl, SB.rf mi⟩)
  · refine r_tabIn (μ := mX12_told) (pc := 12) (tgt := 81) dX12_told_12 (by decide) (by decide) rfl (by decide) ?_
    refine r_aload_n (μ := mX12_told) (pc := 81) dX12_told_81 rfl rfl rfl ?_
    refine r_iload_n (μ := mX12_told) (pc := 82) dX12_told_82 rfl rfl ?_
    refine vP1 (μ := mX12_told) (pc := 83) (c0 := 12) (q0 := (RX12, TX12, 34)) (μ2 := mX12_minutes) dX12_told_83 rfl rfl lkX12_140 imX12_minutes seX12_X12_minutes_X12_minutes mwX12_minutes (Nat.le_of_ble_eq_true rfl) (e_minutes hM hs hI hl) ?_
    exact r_iret (μ := mX12_told) (pc := 86) dX12_told_86 rfl rfl (PX_i ⟨rfl, SB.rf mi⟩)
  · refine r_tabIn (μ := mX12_told) (pc := 12) (tgt := 87) dX12_told_12 (by decide) (by decide) rfl (by decide) ?_
    refine r_aload_n (μ := mX12_told) (pc := 87) dX12_told_87 rfl rfl rfl ?_
    refine r_iload_n (μ := mX12_told) (pc := 88) dX12_told_88 rfl rfl ?_
    refine vX1 (μ := mX12_told) (pc := 89) (c0 := 12) (q0 := (RX12, TX12, 34)) (μ2 := mX12_stands) dX12_told_89 rfl rfl lkX12_143 imX12_stands seX12_X12_stands_X12_stands mwX12_stands (Nat.le_of_ble_eq_true rfl) (c_stands hM hs hI hl) (fun r_89 mi_89 h_89 => ?_)
    obtain ⟨rfl, h89⟩ := h_89
    refine r_if_eq (μ := mX12_told) (pc := 92) (tgt := 99) dX12_told_92 (by decide) (fun h_92 => ?_) (fun h_92 => ?_)
    · have h_92 := b2i_0 h_92
      refine r_iconst (μ := mX12_told) (pc := 99) (v := 0) dX12_told_99 ic_0 ?_
      exact r_iret (μ := mX12_told) (pc := 100) dX12_told_100 rfl rfl (PX_i ⟨by show _ = b2i (stdS s q l); rw [h_92]; rfl, h89⟩)
    · have h_92 := b2i_1 h_92
      refine r_iconst (μ := mX12_told) (pc := 95) (v := 1) dX12_told_95 ic_1 ?_
      refine r_goto (μ := mX12_told) (pc := 96) (tgt := 100) dX12_told_96 (by decide) ?_
      exact r_iret (μ := mX12_told) (pc := 100) dX12_told_100 rfl rfl (PX_i ⟨by show _ = b2i (stdS s q l); rw [h_92]; rfl, h89⟩)
  · refine r_tabIn (μ := mX12_told) (pc := 12) (tgt := 101) dX12_told_12 (by decide) (by decide) rfl (by decide) ?_
    refine r_aload_n (μ := mX12_told) (pc := 101) dX12_told_101 rfl rfl rfl ?_
    refine r_iload_n (μ := mX12_told) (pc := 102) dX12_told_102 rfl rfl ?_
    refine r_iconst (μ := mX12_told) (pc := 103) (v := 4) dX12_told_103 ic_4 ?_
    refine vP2 (μ := mX12_told) (pc := 104) (c0 := 12) (q0 := (RX12, TX12, 34)) (μ2 := mX12_of) dX12_told_104 rfl rfl lkX12_90 imX12_of seX12_X12_of_X12_of mwX12_of (Nat.le_of_ble_eq_true rfl) (e_of hM hs (by omega) (by decide)) ?_
    exact r_iret (μ := mX12_told) (pc := 107) dX12_told_107 rfl rfl (PX_i ⟨rfl, SB.rf mi⟩)
  · refine r_tabIn (μ := mX12_told) (pc := 12) (tgt := 108) dX12_told_12 (by decide) (by decide) rfl (by decide) ?_
    refine r_aload_n (μ := mX12_told) (pc := 108) dX12_told_108 rfl rfl rfl ?_
    refine r_iload_n (μ := mX12_told) (pc := 109) dX12_told_109 rfl rfl ?_
    refine vP1 (μ := mX12_told) (pc := 110) (c0 := 12) (q0 := (RX12, TX12, 34)) (μ2 := mX12_worth) dX12_told_110 rfl rfl lkX12_146 imX12_worth seX12_X12_worth_X12_worth mwX12_worth (Nat.le_of_ble_eq_true rfl) (e_worth hM hs hI hl) ?_
    exact r_iret (μ := mX12_told) (pc := 113) dX12_told_113 rfl rfl (PX_i ⟨rfl, SB.rf mi⟩)
  · refine r_tabIn (μ := mX12_told) (pc := 12) (tgt := 114) dX12_told_12 (by decide) (by decide) rfl (by decide) ?_
    refine r_aload_n (μ := mX12_told) (pc := 114) dX12_told_114 rfl rfl rfl ?_
    refine r_iload_n (μ := mX12_told) (pc := 115) dX12_told_115 rfl rfl ?_
    refine vX1 (μ := mX12_told) (pc := 116) (c0 := 12) (q0 := (RX12, TX12, 34)) (μ2 := mX12_allReached) dX12_told_116 rfl rfl lkX12_149 imX12_allReached seX12_X12_allReached_X12_allReached mwX12_allReached (Nat.le_of_ble_eq_true rfl) (c_allReached hM hs hI hl) (fun r_116 mi_116 h_116 => ?_)
    obtain ⟨rfl, h116⟩ := h_116
    exact r_iret (μ := mX12_told) (pc := 119) dX12_told_119 rfl rfl (PX_i ⟨rfl, h116⟩)

theorem c_count_bad {d : Nat} {mi : MI} {mr : MR} (hM : MB mr) {s : Rw} (hs : mi 1 = s) {n m p q : Nat} (hI : Inv s n m p q) {x : Int32} (hb : ¬ inB x 0 9 = true) : CP (d + 2) mX12_count [.ref 0, .int x] shM mi mr 0 0 (PI (BADc) shM mi mr) := by
  refine CP.of (L := [_, _]) (by decide) rfl rfl (Nat.le_of_ble_eq_true rfl) ?_
  refine r_iload_n (μ := mX12_count) (pc := 0) dX12_count_0 rfl rfl ?_
  refine r_tabOut (μ := mX12_count) (pc := 1) (tgt := 119) dX12_count_1 (by have hq := hb; simp only [inB, decide_eq_true_eq] at hq; omega) (by decide) ?_
  refine r_ldc (μ := mX12_count) (pc := 119) dX12_count_119 ctX12_78 ?_
  exact r_iret (μ := mX12_count) (pc := 121) dX12_count_121 rfl rfl (PI_i rfl)

def countS (s : Rw) (wt tp : Int32) (m q w : Nat) : Int32 :=
  if w = 0 then s 0 else if w = 1 then s 1 else if w = 2 then s 2 else if w = 3 then s 4 else if w = 4 then nI (cntB (stdS s q) m) else if w = 5 then nI (cntB (fun l => decide (mvd s l = 1)) m) else if w = 6 then s 3 else if w = 7 then wt else if w = 8 then tp else s 6

theorem c_count {d : Nat} {mi : MI} {mr : MR} (hM : MB mr) {s : Rw} (hs : mi 1 = s) {n m p q : Nat} (hI : Inv s n m p q) {w : Nat} (hw : w < 10) : CP (d + 6) mX12_count [.ref 0, .int (nI w)] shM mi mr 0 0 (PX shM mr (fun r mi2 => r = countS s (mi 0 32) (mi 0 17) m q w ∧ SB mi mi2)) := by
  have hw9 : w = 0 ∨ w = 1 ∨ w = 2 ∨ w = 3 ∨ w = 4 ∨ w = 5 ∨ w = 6 ∨ w = 7 ∨ w = 8 ∨ w = 9 := by omega
  refine CP.of (L := [_, _]) (by decide) rfl rfl (Nat.le_of_ble_eq_true rfl) ?_
  refine r_iload_n (μ := mX12_count) (pc := 0) dX12_count_0 rfl rfl ?_
  rcases hw9 with rfl | rfl | rfl | rfl | rfl | rfl | rfl | rfl | rfl | rfl
  · refine r_tabIn (μ := mX12_count) (pc := 1) (tgt := 56) dX12_count_1 (by decide) (by decide) rfl (by decide) ?_
    refine r_aload_n (μ := mX12_count) (pc := 56) dX12_count_56 rfl rfl rfl ?_
    refine r_getR (μ := mX12_count) (pc := 57) dX12_count_57 fpX12_7 rfl rfl (by decide) (hM _ _ rfl) ?_
    refine r_iconst (μ := mX12_count) (pc := 60) (v := 0) dX12_count_60 ic_0 ?_
    refine r_iaload (μ := mX12_count) (pc := 61) (j := 0) dX12_count_61 rfl rfl (by decide) (by decide) ?_
    rw [hs]
    exact r_iret (μ := mX12_count) (pc := 62) dX12_count_62 rfl rfl (PX_i ⟨rfl, SB.rf mi⟩)
  · refine r_tabIn (μ := mX12_count) (pc := 1) (tgt := 63) dX12_count_1 (by decide) (by decide) rfl (by decide) ?_
    refine r_aload_n (μ := mX12_count) (pc := 63) dX12_count_63 rfl rfl rfl ?_
    refine r_getR (μ := mX12_count) (pc := 64) dX12_count_64 fpX12_7 rfl rfl (by decide) (hM _ _ rfl) ?_
    refine r_iconst (μ := mX12_count) (pc := 67) (v := 1) dX12_count_67 ic_1 ?_
    refine r_iaload (μ := mX12_count) (pc := 68) (j := 1) dX12_count_68 rfl rfl (by decide) (by decide) ?_
    rw [hs]
    exact r_iret (μ := mX12_count) (pc := 69) dX12_count_69 rfl rfl (PX_i ⟨rfl, SB.rf mi⟩)
  · refine r_tabIn (μ := mX12_count) (pc := 1) (tgt := 70) dX12_count_1 (by decide) (by decide) rfl (by decide) ?_
    refine r_aload_n (μ := mX12_count) (pc := 70) dX12_count_70 rfl rfl rfl ?_
    refine r_getR (μ := mX12_count) (pc := 71) dX12_count_71 fpX12_7 rfl rfl (by decide) (hM _ _ rfl) ?_
    refine r_iconst (μ := mX12_count) (pc := 74) (v := 2) dX12_count_74 ic_2 ?_
    refine r_iaload (μ := mX12_count) (pc := 75) (j := 2) dX12_count_75 rfl rfl (by decide) (by decide) ?_
    rw [hs]
    exact r_iret (μ := mX12_count) (pc := 76) dX12_count_76 rfl rfl (PX_i ⟨rfl, SB.rf mi⟩)
  · refine r_tabIn (μ := mX12_count) (pc := 1) (tgt := 77) dX12_count_1 (by decide) (by decide) rfl (by decide) ?_
    refine r_aload_n (μ := mX12_count) (pc := 77) dX12_count_77 rfl rfl rfl ?_
    refine r_getR (μ := mX12_count) (pc := 78) dX12_count_78 fpX12_7 rfl rfl (by decide) (hM _ _ rfl) ?_
    refine r_iconst (μ := mX12_count) (pc := 81) (v := 4) dX12_count_81 ic_4 ?_
    refine r_iaload (μ := mX12_count) (pc := 82) (j := 4) dX12_count_82 rfl rfl (by decide) (by decide) ?_
    rw [hs]
    exact r_iret (μ := mX12_count) (pc := 83) dX12_count_83 rfl rfl (PX_i ⟨rfl, SB.rf mi⟩)
  · refine r_tabIn (μ := mX12_count) (pc := 1) (tgt := 84) dX12_count_1 (by decide) (by decide) rfl (by decide) ?_
    refine r_aload_n (μ := mX12_count) (pc := 84) dX12_count_84 rfl rfl rfl ?_
    refine vX0 (μ := mX12_count) (pc := 85) (c0 := 12) (q0 := (RX12, TX12, 34)) (μ2 := mX12_standing) dX12_count_85 rfl rfl lkX12_340 imX12_standing seX12_X12_standing_X12_standing mwX12_standing (Nat.le_of_ble_eq_true rfl) (c_standing hM hs hI) (fun r_85 mi_85 h_85 => ?_)
    obtain ⟨rfl, h85⟩ := h_85
    exact r_iret (μ := mX12_count) (pc := 88) dX12_count_88 rfl rfl (PX_i ⟨rfl, h85⟩)
  · refine r_tabIn (μ := mX12_count) (pc := 1) (tgt := 89) dX12_count_1 (by decide) (by decide) rfl (by decide) ?_
    refine r_aload_n (μ := mX12_count) (pc := 89) dX12_count_89 rfl rfl rfl ?_
    refine vP0 (μ := mX12_count) (pc := 90) (c0 := 12) (q0 := (RX12, TX12, 34)) (μ2 := mX12_movedMany) dX12_count_90 rfl rfl lkX12_343 imX12_movedMany seX12_X12_movedMany_X12_movedMany mwX12_movedMany (Nat.le_of_ble_eq_true rfl) (c_movedMany hM hs hI) ?_
    exact r_iret (μ := mX12_count) (pc := 93) dX12_count_93 rfl rfl (PX_i ⟨rfl, SB.rf mi⟩)
  · refine r_tabIn (μ := mX12_count) (pc := 1) (tgt := 94) dX12_count_1 (by decide) (by decide) rfl (by decide) ?_
    refine r_aload_n (μ := mX12_count) (pc := 94) dX12_count_94 rfl rfl rfl ?_
    refine r_getR (μ := mX12_count) (pc := 95) dX12_count_95 fpX12_7 rfl rfl (by decide) (hM _ _ rfl) ?_
    refine r_iconst (μ := mX12_count) (pc := 98) (v := 3) dX12_count_98 ic_3 ?_
    refine r_iaload (μ := mX12_count) (pc := 99) (j := 3) dX12_count_99 rfl rfl (by decide) (by decide) ?_
    rw [hs]
    exact r_iret (μ := mX12_count) (pc := 100) dX12_count_100 rfl rfl (PX_i ⟨rfl, SB.rf mi⟩)
  · refine r_tabIn (μ := mX12_count) (pc := 1) (tgt := 101) dX12_count_1 (by decide) (by decide) rfl (by decide) ?_
    refine r_aload_n (μ := mX12_count) (pc := 101) dX12_count_101 rfl rfl rfl ?_
    refine r_getI (μ := mX12_count) (pc := 102) dX12_count_102 fpX12_329 rfl rfl (by decide) ?_
    exact r_iret (μ := mX12_count) (pc := 105) dX12_count_105 rfl rfl (PX_i ⟨rfl, SB.rf mi⟩)
  · refine r_tabIn (μ := mX12_count) (pc := 1) (tgt := 106) dX12_count_1 (by decide) (by decide) rfl (by decide) ?_
    refine r_aload_n (μ := mX12_count) (pc := 106) dX12_count_106 rfl rfl rfl ?_
    refine r_getI (μ := mX12_count) (pc := 107) dX12_count_107 fpX12_215 rfl rfl (by decide) ?_
    exact r_iret (μ := mX12_count) (pc := 110) dX12_count_110 rfl rfl (PX_i ⟨rfl, SB.rf mi⟩)
  · refine r_tabIn (μ := mX12_count) (pc := 1) (tgt := 111) dX12_count_1 (by decide) (by decide) rfl (by decide) ?_
    refine r_aload_n (μ := mX12_count) (pc := 111) dX12_count_111 rfl rfl rfl ?_
    refine r_getR (μ := mX12_count) (pc := 112) dX12_count_112 fpX12_7 rfl rfl (by decide) (hM _ _ rfl) ?_
    refine r_bipush (μ := mX12_count) (pc := 115) (v := 6) dX12_count_115 bp_6 ?_
    refine r_iaload (μ := mX12_count) (pc := 117) (j := 6) dX12_count_117 rfl rfl (by decide) (by decide) ?_
    rw [hs]
    exact r_iret (μ := mX12_count) (pc := 118) dX12_count_118 rfl rfl (PX_i ⟨rfl, SB.rf mi⟩)

theorem c_set_bad {d : Nat} {mi : MI} {mr : MR} (hM : MB mr) {s : Rw} (hs : mi 1 = s) {n m p q : Nat} (hI : Inv s n m p q) {x w v : Int32} (hb : ¬ (inR x p = true ∧ ((w = 0 ∧ inR v n = true) ∨ (w = 1 ∧ inB v 0 99 = true)))) : CP (d + 2) mX12_set [.ref 0, .int x, .int w, .int v] shM mi mr 0 0 (PI (BADc) shM mi mr) := by
  refine CP.of (L := [_, _, _, _, _]) (by decide) rfl rfl (Nat.le_of_ble_eq_true rfl) ?_
  refine r_iload_n (μ := mX12_set) (pc := 0) dX12_set_0 rfl rfl ?_
  refine r_if_ne (μ := mX12_set) (pc := 1) (tgt := 12) dX12_set_1 (by decide) (fun h_1 => ?_) (fun h_1 => ?_)
  · refine r_iload_n (μ := mX12_set) (pc := 12) dX12_set_12 rfl rfl ?_
    refine r_iconst (μ := mX12_set) (pc := 13) (v := 1) dX12_set_13 ic_1 ?_
    refine r_icmp_ne (μ := mX12_set) (pc := 14) (tgt := 33) dX12_set_14 (by decide) (fun h_14 => ?_) (fun h_14 => ?_)
    · refine r_iconst (μ := mX12_set) (pc := 33) (v := 0) dX12_set_33 ic_0 ?_
      refine s_istore (μ := mX12_set) (pc := 34) (L2 := [_, _, _, _, _]) dX12_set_34 (Nat.le_of_ble_eq_true rfl) (Nat.le_of_ble_eq_true rfl) rfl rfl ?_
      refine r_aload_n (μ := mX12_set) (pc := 36) dX12_set_36 rfl rfl rfl ?_
      refine r_iload_n (μ := mX12_set) (pc := 37) dX12_set_37 rfl rfl ?_
      refine vP1 (μ := mX12_set) (pc := 38) (c0 := 12) (q0 := (RX12, TX12, 34)) (μ2 := mX12_isPerson) dX12_set_38 rfl rfl lkX12_156 imX12_isPerson seX12_X12_isPerson_X12_isPerson mwX12_isPerson (Nat.le_of_ble_eq_true rfl) (e_isPerson hM hs hI) ?_
      refine r_if_eq (μ := mX12_set) (pc := 41) (tgt := 65) dX12_set_41 (by decide) (fun h_41 => ?_) (fun h_41 => ?_)
      · have h_41 := b2i_0 h_41
        refine r_ldc (μ := mX12_set) (pc := 65) dX12_set_65 ctX12_78 ?_
        exact r_iret (μ := mX12_set) (pc := 67) dX12_set_67 rfl rfl (PI_i rfl)
      · have h_41 := b2i_1 h_41
        refine r_iload (μ := mX12_set) (pc := 44) dX12_set_44 rfl ?_
        refine r_if_eq (μ := mX12_set) (pc := 46) (tgt := 65) dX12_set_46 (by decide) (fun h_46 => ?_) (fun h_46 => ?_)
        · refine r_ldc (μ := mX12_set) (pc := 65) dX12_set_65 ctX12_78 ?_
          exact r_iret (μ := mX12_set) (pc := 67) dX12_set_67 rfl rfl (PI_i rfl)
        · exfalso
          apply hb
          refine ⟨h_41, ?_⟩
          simp_all [b2i]
    · refine r_iload_n (μ := mX12_set) (pc := 17) dX12_set_17 rfl rfl ?_
      refine r_i2l (μ := mX12_set) (pc := 18) dX12_set_18 ?_
      refine r_lconst (μ := mX12_set) (pc := 19) (v := 0) dX12_set_19 lc_0 ?_
      refine r_ldc2 (μ := mX12_set) (pc := 20) dX12_set_20 clX12_74 ?_
      refine sP3 (μ := mX12_set) (pc := 23) (μ2 := mX12_isIn) dX12_set_23 lkX12_65 stX12_isIn mwX12_isIn (Nat.le_of_ble_eq_true rfl) (c_isInK il_0 il_99) ?_
      refine r_if_eq (μ := mX12_set) (pc := 26) (tgt := 33) dX12_set_26 (by decide) (fun h_26 => ?_) (fun h_26 => ?_)
      · have h_26 := b2i_0 h_26
        refine r_iconst (μ := mX12_set) (pc := 33) (v := 0) dX12_set_33 ic_0 ?_
        refine s_istore (μ := mX12_set) (pc := 34) (L2 := [_, _, _, _, _]) dX12_set_34 (Nat.le_of_ble_eq_true rfl) (Nat.le_of_ble_eq_true rfl) rfl rfl ?_
        refine r_aload_n (μ := mX12_set) (pc := 36) dX12_set_36 rfl rfl rfl ?_
        refine r_iload_n (μ := mX12_set) (pc := 37) dX12_set_37 rfl rfl ?_
        refine vP1 (μ := mX12_set) (pc := 38) (c0 := 12) (q0 := (RX12, TX12, 34)) (μ2 := mX12_isPerson) dX12_set_38 rfl rfl lkX12_156 imX12_isPerson seX12_X12_isPerson_X12_isPerson mwX12_isPerson (Nat.le_of_ble_eq_true rfl) (e_isPerson hM hs hI) ?_
        refine r_if_eq (μ := mX12_set) (pc := 41) (tgt := 65) dX12_set_41 (by decide) (fun h_41 => ?_) (fun h_41 => ?_)
        · have h_41 := b2i_0 h_41
          refine r_ldc (μ := mX12_set) (pc := 65) dX12_set_65 ctX12_78 ?_
          exact r_iret (μ := mX12_set) (pc := 67) dX12_set_67 rfl rfl (PI_i rfl)
        · have h_41 := b2i_1 h_41
          refine r_iload (μ := mX12_set) (pc := 44) dX12_set_44 rfl ?_
          refine r_if_eq (μ := mX12_set) (pc := 46) (tgt := 65) dX12_set_46 (by decide) (fun h_46 => ?_) (fun h_46 => ?_)
          · refine r_ldc (μ := mX12_set) (pc := 65) dX12_set_65 ctX12_78 ?_
            exact r_iret (μ := mX12_set) (pc := 67) dX12_set_67 rfl rfl (PI_i rfl)
          · exfalso
            apply hb
            refine ⟨h_41, ?_⟩
            simp_all [b2i]
      · have h_26 := b2i_1 h_26
        refine r_iconst (μ := mX12_set) (pc := 29) (v := 1) dX12_set_29 ic_1 ?_
        refine r_goto (μ := mX12_set) (pc := 30) (tgt := 34) dX12_set_30 (by decide) ?_
        refine s_istore (μ := mX12_set) (pc := 34) (L2 := [_, _, _, _, _]) dX12_set_34 (Nat.le_of_ble_eq_true rfl) (Nat.le_of_ble_eq_true rfl) rfl rfl ?_
        refine r_aload_n (μ := mX12_set) (pc := 36) dX12_set_36 rfl rfl rfl ?_
        refine r_iload_n (μ := mX12_set) (pc := 37) dX12_set_37 rfl rfl ?_
        refine vP1 (μ := mX12_set) (pc := 38) (c0 := 12) (q0 := (RX12, TX12, 34)) (μ2 := mX12_isPerson) dX12_set_38 rfl rfl lkX12_156 imX12_isPerson seX12_X12_isPerson_X12_isPerson mwX12_isPerson (Nat.le_of_ble_eq_true rfl) (e_isPerson hM hs hI) ?_
        refine r_if_eq (μ := mX12_set) (pc := 41) (tgt := 65) dX12_set_41 (by decide) (fun h_41 => ?_) (fun h_41 => ?_)
        · have h_41 := b2i_0 h_41
          refine r_ldc (μ := mX12_set) (pc := 65) dX12_set_65 ctX12_78 ?_
          exact r_iret (μ := mX12_set) (pc := 67) dX12_set_67 rfl rfl (PI_i rfl)
        · have h_41 := b2i_1 h_41
          refine r_iload (μ := mX12_set) (pc := 44) dX12_set_44 rfl ?_
          refine r_if_eq (μ := mX12_set) (pc := 46) (tgt := 65) dX12_set_46 (by decide) (fun h_46 => ?_) (fun h_46 => ?_)
          · refine r_ldc (μ := mX12_set) (pc := 65) dX12_set_65 ctX12_78 ?_
            exact r_iret (μ := mX12_set) (pc := 67) dX12_set_67 rfl rfl (PI_i rfl)
          · exfalso
            apply hb
            refine ⟨h_41, ?_⟩
            simp_all [b2i]
  · refine r_aload_n (μ := mX12_set) (pc := 4) dX12_set_4 rfl rfl rfl ?_
    refine r_iload_n (μ := mX12_set) (pc := 5) dX12_set_5 rfl rfl ?_
    refine vP1 (μ := mX12_set) (pc := 6) (c0 := 12) (q0 := (RX12, TX12, 34)) (μ2 := mX12_isLedge) dX12_set_6 rfl rfl lkX12_84 imX12_isLedge seX12_X12_isLedge_X12_isLedge mwX12_isLedge (Nat.le_of_ble_eq_true rfl) (e_isLedge hM hs hI) ?_
    refine r_goto (μ := mX12_set) (pc := 9) (tgt := 34) dX12_set_9 (by decide) ?_
    refine s_istore (μ := mX12_set) (pc := 34) (L2 := [_, _, _, _, _]) dX12_set_34 (Nat.le_of_ble_eq_true rfl) (Nat.le_of_ble_eq_true rfl) rfl rfl ?_
    refine r_aload_n (μ := mX12_set) (pc := 36) dX12_set_36 rfl rfl rfl ?_
    refine r_iload_n (μ := mX12_set) (pc := 37) dX12_set_37 rfl rfl ?_
    refine vP1 (μ := mX12_set) (pc := 38) (c0 := 12) (q0 := (RX12, TX12, 34)) (μ2 := mX12_isPerson) dX12_set_38 rfl rfl lkX12_156 imX12_isPerson seX12_X12_isPerson_X12_isPerson mwX12_isPerson (Nat.le_of_ble_eq_true rfl) (e_isPerson hM hs hI) ?_
    refine r_if_eq (μ := mX12_set) (pc := 41) (tgt := 65) dX12_set_41 (by decide) (fun h_41 => ?_) (fun h_41 => ?_)
    · have h_41 := b2i_0 h_41
      refine r_ldc (μ := mX12_set) (pc := 65) dX12_set_65 ctX12_78 ?_
      exact r_iret (μ := mX12_set) (pc := 67) dX12_set_67 rfl rfl (PI_i rfl)
    · have h_41 := b2i_1 h_41
      refine r_iload (μ := mX12_set) (pc := 44) dX12_set_44 rfl ?_
      refine r_if_eq (μ := mX12_set) (pc := 46) (tgt := 65) dX12_set_46 (by decide) (fun h_46 => ?_) (fun h_46 => ?_)
      · refine r_ldc (μ := mX12_set) (pc := 65) dX12_set_65 ctX12_78 ?_
        exact r_iret (μ := mX12_set) (pc := 67) dX12_set_67 rfl rfl (PI_i rfl)
      · exfalso
        apply hb
        refine ⟨h_41, ?_⟩
        simp_all [b2i]

theorem c_set0 {d : Nat} {mi : MI} {mr : MR} (hM : MB mr) {s : Rw} (hs : mi 1 = s) {n m p q : Nat} (hI : Inv s n m p q) {i : Nat} {v : Int32} (hi : i < p) (hv : inR v n = true) : CP (d + 2) mX12_set [.ref 0, .int (nI i), .int 0, .int v] shM mi mr 0 0 (PX shM mr (fun r mi2 => r = s (68 + 2 * i + 0) ∧ mi2 = upI mi 1 (68 + 2 * i + 0) v)) := by
  have hn10 := hI.n10; have hm8 := hI.m8; have hp6 := hI.p6; have hq14 := hI.q14
  refine CP.of (L := [_, _, _, _, _]) (by decide) rfl rfl (Nat.le_of_ble_eq_true rfl) ?_
  refine r_iload_n (μ := mX12_set) (pc := 0) dX12_set_0 rfl rfl ?_
  refine r_if_ne (μ := mX12_set) (pc := 1) (tgt := 12) dX12_set_1 (by decide) (fun h_1 => absurd rfl h_1) (fun h_1 => ?_)
  refine r_aload_n (μ := mX12_set) (pc := 4) dX12_set_4 rfl rfl rfl ?_
  refine r_iload_n (μ := mX12_set) (pc := 5) dX12_set_5 rfl rfl ?_
  refine vP1 (μ := mX12_set) (pc := 6) (c0 := 12) (q0 := (RX12, TX12, 34)) (μ2 := mX12_isLedge) dX12_set_6 rfl rfl lkX12_84 imX12_isLedge seX12_X12_isLedge_X12_isLedge mwX12_isLedge (Nat.le_of_ble_eq_true rfl) (e_isLedge hM hs hI) ?_
  refine r_goto (μ := mX12_set) (pc := 9) (tgt := 34) dX12_set_9 (by decide) ?_
  refine s_istore (μ := mX12_set) (pc := 34) (L2 := [_, _, _, _, _]) dX12_set_34 (Nat.le_of_ble_eq_true rfl) (Nat.le_of_ble_eq_true rfl) rfl rfl ?_
  refine r_aload_n (μ := mX12_set) (pc := 36) dX12_set_36 rfl rfl rfl ?_
  refine r_iload_n (μ := mX12_set) (pc := 37) dX12_set_37 rfl rfl ?_
  refine vP1 (μ := mX12_set) (pc := 38) (c0 := 12) (q0 := (RX12, TX12, 34)) (μ2 := mX12_isPerson) dX12_set_38 rfl rfl lkX12_156 imX12_isPerson seX12_X12_isPerson_X12_isPerson mwX12_isPerson (Nat.le_of_ble_eq_true rfl) (e_isPerson hM hs hI) ?_
  refine r_if_eq (μ := mX12_set) (pc := 41) (tgt := 65) dX12_set_41 (by decide) (fun h_41 => absurd h_41 (b2i_ne (inR_nI hi (by omega)))) (fun h_41 => ?_)
  refine r_iload (μ := mX12_set) (pc := 44) dX12_set_44 rfl ?_
  refine r_if_eq (μ := mX12_set) (pc := 46) (tgt := 65) dX12_set_46 (by decide) (fun h_46 => absurd h_46 (b2i_ne hv)) (fun h_46 => ?_)
  refine r_aload_n (μ := mX12_set) (pc := 49) dX12_set_49 rfl rfl rfl ?_
  refine r_bipush (μ := mX12_set) (pc := 50) (v := 68) dX12_set_50 bp_68 ?_
  refine r_iconst (μ := mX12_set) (pc := 52) (v := 2) dX12_set_52 ic_2 ?_
  refine r_iload_n (μ := mX12_set) (pc := 53) dX12_set_53 rfl rfl ?_
  refine r_imul (μ := mX12_set) (pc := 54) dX12_set_54 ?_
  refine r_iadd (μ := mX12_set) (pc := 55) dX12_set_55 ?_
  refine r_iload_n (μ := mX12_set) (pc := 56) dX12_set_56 rfl rfl ?_
  refine r_iadd (μ := mX12_set) (pc := 57) dX12_set_57 ?_
  refine r_iload_n (μ := mX12_set) (pc := 58) dX12_set_58 rfl rfl ?_
  refine vX2 (μ := mX12_set) (pc := 59) (c0 := 12) (q0 := (RX12, TX12, 34)) (μ2 := mX12_becomes) dX12_set_59 rfl rfl lkX12_97 imX12_becomes seX12_X12_becomes_X12_becomes mwX12_becomes (Nat.le_of_ble_eq_true rfl) (c_becomesE hM (k := 68 + 2 * i + 0) (by simp only [← nI_add, ← pk_mul]; rfl) (by omega)) (fun r_59 mi_59 h_59 => ?_)
  refine r_goto (μ := mX12_set) (pc := 62) (tgt := 67) dX12_set_62 (by decide) ?_
  exact r_iret (μ := mX12_set) (pc := 67) dX12_set_67 rfl rfl (PX_i ⟨by rw [← hs]; exact h_59.1, h_59.2⟩)

theorem c_set1 {d : Nat} {mi : MI} {mr : MR} (hM : MB mr) {s : Rw} (hs : mi 1 = s) {n m p q : Nat} (hI : Inv s n m p q) {i : Nat} {v : Int32} (hi : i < p) (hv : inB v 0 99 = true) : CP (d + 2) mX12_set [.ref 0, .int (nI i), .int 1, .int v] shM mi mr 0 0 (PX shM mr (fun r mi2 => r = s (68 + 2 * i + 1) ∧ mi2 = upI mi 1 (68 + 2 * i + 1) v)) := by
  have hn10 := hI.n10; have hm8 := hI.m8; have hp6 := hI.p6; have hq14 := hI.q14
  refine CP.of (L := [_, _, _, _, _]) (by decide) rfl rfl (Nat.le_of_ble_eq_true rfl) ?_
  refine r_iload_n (μ := mX12_set) (pc := 0) dX12_set_0 rfl rfl ?_
  refine r_if_ne (μ := mX12_set) (pc := 1) (tgt := 12) dX12_set_1 (by decide) (fun h_1 => ?_) (fun h_1 => absurd h_1 (by decide))
  refine r_iload_n (μ := mX12_set) (pc := 12) dX12_set_12 rfl rfl ?_
  refine r_iconst (μ := mX12_set) (pc := 13) (v := 1) dX12_set_13 ic_1 ?_
  refine r_icmp_ne (μ := mX12_set) (pc := 14) (tgt := 33) dX12_set_14 (by decide) (fun h_14 => absurd rfl h_14) (fun h_14 => ?_)
  refine r_iload_n (μ := mX12_set) (pc := 17) dX12_set_17 rfl rfl ?_
  refine r_i2l (μ := mX12_set) (pc := 18) dX12_set_18 ?_
  refine r_lconst (μ := mX12_set) (pc := 19) (v := 0) dX12_set_19 lc_0 ?_
  refine r_ldc2 (μ := mX12_set) (pc := 20) dX12_set_20 clX12_74 ?_
  refine sP3 (μ := mX12_set) (pc := 23) (μ2 := mX12_isIn) dX12_set_23 lkX12_65 stX12_isIn mwX12_isIn (Nat.le_of_ble_eq_true rfl) (c_isInK il_0 il_99) ?_
  refine r_if_eq (μ := mX12_set) (pc := 26) (tgt := 33) dX12_set_26 (by decide) (fun h_26 => absurd h_26 (b2i_ne hv)) (fun h_26 => ?_)
  refine r_iconst (μ := mX12_set) (pc := 29) (v := 1) dX12_set_29 ic_1 ?_
  refine r_goto (μ := mX12_set) (pc := 30) (tgt := 34) dX12_set_30 (by decide) ?_
  refine s_istore (μ := mX12_set) (pc := 34) (L2 := [_, _, _, _, _]) dX12_set_34 (Nat.le_of_ble_eq_true rfl) (Nat.le_of_ble_eq_true rfl) rfl rfl ?_
  refine r_aload_n (μ := mX12_set) (pc := 36) dX12_set_36 rfl rfl rfl ?_
  refine r_iload_n (μ := mX12_set) (pc := 37) dX12_set_37 rfl rfl ?_
  refine vP1 (μ := mX12_set) (pc := 38) (c0 := 12) (q0 := (RX12, TX12, 34)) (μ2 := mX12_isPerson) dX12_set_38 rfl rfl lkX12_156 imX12_isPerson seX12_X12_isPerson_X12_isPerson mwX12_isPerson (Nat.le_of_ble_eq_true rfl) (e_isPerson hM hs hI) ?_
  refine r_if_eq (μ := mX12_set) (pc := 41) (tgt := 65) dX12_set_41 (by decide) (fun h_41 => absurd h_41 (b2i_ne (inR_nI hi (by omega)))) (fun h_41 => ?_)
  refine r_iload (μ := mX12_set) (pc := 44) dX12_set_44 rfl ?_
  refine r_if_eq (μ := mX12_set) (pc := 46) (tgt := 65) dX12_set_46 (by decide) (fun h_46 => absurd h_46 (by decide)) (fun h_46 => ?_)
  refine r_aload_n (μ := mX12_set) (pc := 49) dX12_set_49 rfl rfl rfl ?_
  refine r_bipush (μ := mX12_set) (pc := 50) (v := 68) dX12_set_50 bp_68 ?_
  refine r_iconst (μ := mX12_set) (pc := 52) (v := 2) dX12_set_52 ic_2 ?_
  refine r_iload_n (μ := mX12_set) (pc := 53) dX12_set_53 rfl rfl ?_
  refine r_imul (μ := mX12_set) (pc := 54) dX12_set_54 ?_
  refine r_iadd (μ := mX12_set) (pc := 55) dX12_set_55 ?_
  refine r_iload_n (μ := mX12_set) (pc := 56) dX12_set_56 rfl rfl ?_
  refine r_iadd (μ := mX12_set) (pc := 57) dX12_set_57 ?_
  refine r_iload_n (μ := mX12_set) (pc := 58) dX12_set_58 rfl rfl ?_
  refine vX2 (μ := mX12_set) (pc := 59) (c0 := 12) (q0 := (RX12, TX12, 34)) (μ2 := mX12_becomes) dX12_set_59 rfl rfl lkX12_97 imX12_becomes seX12_X12_becomes_X12_becomes mwX12_becomes (Nat.le_of_ble_eq_true rfl) (c_becomesE hM (k := 68 + 2 * i + 1) (by simp only [← nI_add, ← pk_mul]; rfl) (by omega)) (fun r_59 mi_59 h_59 => ?_)
  refine r_goto (μ := mX12_set) (pc := 62) (tgt := 67) dX12_set_62 (by decide) ?_
  exact r_iret (μ := mX12_set) (pc := 67) dX12_set_67 rfl rfl (PX_i ⟨by rw [← hs]; exact h_59.1, h_59.2⟩)

