theorem len_k {s : Rw} {q x y : Nat} (h1 : inB (hgt s x) 0 99 = true) (h2 : inB (hgt s y) 0 99 = true) (h3 : inB (plc s x) 0 99 = true) (h4 : inB (plc s y) 0 99 = true) : clampT (if lstT s q (nI 0) < 0 then apartS (hgt s x) (hgt s y) + apartS (plc s x) (plc s y) else givT s (lstT s q (nI 0)).toNatClampNeg (envL (apartS (hgt s x) (hgt s y)) (apartS (plc s x) (plc s y)))) 999 = lenS s q x y := by
  unfold lenS
  show clampT (if lstT s q 0 < 0 then _ else _) 999 = _
  by_cases h : lstT s q 0 < 0
  · rw [if_pos h, if_pos h]
    obtain ⟨i, hi, e1⟩ := ap_b h1 h2
    obtain ⟨j, hj, e2⟩ := ap_b h3 h4
    rw [e1, e2, cl_sum (by omega)]
  · rw [if_neg h, if_neg h]
    rfl
theorem TXT.oa {sh : List Sh} {mi : MI} {mr : MR} {a : Nat} {s : Rw} {t : Nat} (h : TXT sh mi mr a s t) : sh[a]? = some (8 + 4, 3) := by
  obtain ⟨c, kt, -, ⟨h1, -⟩, -⟩ := h
  exact h1

theorem k_given {d : Nat} {sh : List Sh} {mi : MI} {mr : MR} {b : Nat} (hT : TB sh mr b) (hb : b + 11 < 76) {s : Rw} {n m p q : Nat} (hR : RT sh mi mr b s n m p q) (hI : Inv s n m p q) {kt : Nat} (hk : kt < 3) {f g h w : Int32} {nm : Rw} (hnm : ∀ pl, pl < nlen kt → nm (nmL kt pl) = na3 f g h pl) : CP (d + 2) mX9_given [.ref b, .int (nI kt), .int f, .int g, .int h, .int w] sh mi mr 0 0 (PX sh mr (fun r mi2 => r = (if lstT s q (nI kt) < 0 then w else givT s (lstT s q (nI kt)).toNatClampNeg nm) ∧ SP (b + 11) mi mi2)) := by
  have hn10 := hI.n10; have hm8 := hI.m8; have hp6 := hI.p6; have hq14 := hI.q14
  refine CP.of (L := [_, _, _, _, _, _, _, _]) (by decide) rfl rfl (Nat.le_of_ble_eq_true rfl) ?_
  refine r_aload_n (μ := mX9_given) (pc := 0) dX9_given_0 rfl rfl rfl ?_
  refine r_getR (μ := mX9_given) (pc := 1) dX9_given_1 fpX9_67 rfl (hT.1 0 _ rfl) (by decide) (hT.2.1 _ _ rfl) ?_
  refine r_iload_n (μ := mX9_given) (pc := 4) dX9_given_4 rfl rfl ?_
  refine r_iaload (μ := mX9_given) (pc := 5) (j := kt) dX9_given_5 (hT.1 _ _ rfl) rfl hk (by decide) ?_
  rw [hR.lk hk]
  refine s_istore (μ := mX9_given) (pc := 6) (L2 := [_, _, _, _, _, _, _, _]) dX9_given_6 (Nat.le_of_ble_eq_true rfl) (Nat.le_of_ble_eq_true rfl) rfl rfl ?_
  refine r_iload (μ := mX9_given) (pc := 8) dX9_given_8 rfl ?_
  refine r_aload_n (μ := mX9_given) (pc := 10) dX9_given_10 rfl rfl rfl ?_
  refine r_getI (μ := mX9_given) (pc := 11) dX9_given_11 fpX9_58 rfl (hT.1 0 _ rfl) (by decide) ?_
  refine snP2 (μ := mX9_given) (pc := 14) (μ2 := mX11_within) dX9_given_14 lkX9_97 stX11_within mwX11_within (Nat.le_of_ble_eq_true rfl) (k_within hR.eq (by omega)) ?_
  refine r_if_ne (μ := mX9_given) (pc := 17) (tgt := 23) dX9_given_17 (by decide) (fun h_17 => ?_) (fun h_17 => ?_)
  · have h_17 := b2i_1 h_17
    obtain ⟨j, hj, ej⟩ := inR_of h_17
    have h0 : 0 ≤ lstT s q (nI kt) := by rw [ej]; exact nI_pos' (by omega)
    obtain ⟨t, ht, e2, e3, e4, e5⟩ := lst_pos hq14 h0
    obtain ⟨a, ha, hX⟩ := hR.tx ht
    rw [e2]
    refine r_aload_n (μ := mX9_given) (pc := 23) dX9_given_23 rfl rfl rfl ?_
    refine r_getR (μ := mX9_given) (pc := 24) dX9_given_24 fpX9_63 rfl (hT.1 0 _ rfl) (by decide) (hT.2.1 _ _ rfl) ?_
    refine r_iload (μ := mX9_given) (pc := 27) dX9_given_27 rfl ?_
    refine r_aaload (μ := mX9_given) (pc := 29) (t := 2) dX9_given_29 (by decide) (hT.1 9 _ rfl) rfl (by omega) (by decide) ha ?_
    refine s_astore (μ := mX9_given) (pc := 30) (L2 := [_, _, _, _, _, _, _, _]) dX9_given_30 (Nat.le_of_ble_eq_true rfl) (Nat.le_of_ble_eq_true rfl) rfl rfl ?_
    refine r_aload (μ := mX9_given) (pc := 32) dX9_given_32 rfl rfl ?_
    refine r_nonnull (μ := mX9_given) (pc := 34) (tgt := 42) dX9_given_34 (by decide) ?_
    refine r_aload (μ := mX9_given) (pc := 42) dX9_given_42 rfl rfl ?_
    refine r_iload_n (μ := mX9_given) (pc := 44) dX9_given_44 rfl rfl ?_
    refine r_iload_n (μ := mX9_given) (pc := 45) dX9_given_45 rfl rfl ?_
    refine r_iload (μ := mX9_given) (pc := 46) dX9_given_46 rfl ?_
    refine r_aload_n (μ := mX9_given) (pc := 48) dX9_given_48 rfl rfl rfl ?_
    refine r_getR (μ := mX9_given) (pc := 49) dX9_given_49 fpX9_70 rfl (hT.1 0 _ rfl) (by decide) (hT.2.1 _ _ rfl) ?_
    refine vX4 (μ := mX9_given) (pc := 52) (c0 := 8) (q0 := (RX8, TX8, 3)) (μ2 := mX8_gives) dX9_given_52 hX.oa rfl lkX9_101 imX8_gives seX8_X8_gives_X8_gives mwX8_gives (Nat.le_of_ble_eq_true rfl) (k_gives hX (hI.tx ht) (hT.1 _ _ rfl) (by omega) e3 hk hnm) (fun r_52 mi_52 h_52 => ?_)
    obtain ⟨rfl, h52⟩ := h_52
    exact r_iret (μ := mX9_given) (pc := 55) dX9_given_55 rfl rfl (PX_i ⟨by rw [if_neg (nI_pos (by omega)), nI_clamp (by omega)], h52⟩)
  · have h_17 := b2i_0 h_17
    have h5 : lstT s q (nI kt) < 0 := Int32.not_le.mp (fun z => by obtain ⟨t, ht, e2, -⟩ := lst_pos hq14 z; rw [e2, inR_nI ht (by omega)] at h_17; cases h_17)
    refine r_iload (μ := mX9_given) (pc := 20) dX9_given_20 rfl ?_
    exact r_iret (μ := mX9_given) (pc := 22) dX9_given_22 rfl rfl (PX_i ⟨by rw [if_pos h5], SP.rf _ _⟩)

theorem k_tollOf {d : Nat} {sh : List Sh} {mi : MI} {mr : MR} {b : Nat} (hT : TB sh mr b) (hb : b + 11 < 76) {s : Rw} {n m p q : Nat} (hR : RT sh mi mr b s n m p q) (hI : Inv s n m p q) {x y : Int32} : CP (d + 3) mX9_tollOf [.ref b, .int x, .int y] sh mi mr 0 0 (PX sh mr (fun r mi2 => r = tollS s q x y ∧ SP (b + 11) mi mi2)) := by
  have hn10 := hI.n10; have hm8 := hI.m8; have hp6 := hI.p6; have hq14 := hI.q14
  refine CP.of (L := [_, _, _]) (by decide) rfl rfl (Nat.le_of_ble_eq_true rfl) ?_
  refine r_aload_n (μ := mX9_tollOf) (pc := 0) dX9_tollOf_0 rfl rfl rfl ?_
  refine r_iconst (μ := mX9_tollOf) (pc := 1) (v := 2) dX9_tollOf_1 ic_2 ?_
  refine r_iload_n (μ := mX9_tollOf) (pc := 2) dX9_tollOf_2 rfl rfl ?_
  refine r_iload_n (μ := mX9_tollOf) (pc := 3) dX9_tollOf_3 rfl rfl ?_
  refine r_iconst (μ := mX9_tollOf) (pc := 4) (v := 0) dX9_tollOf_4 ic_0 ?_
  refine r_iload_n (μ := mX9_tollOf) (pc := 5) dX9_tollOf_5 rfl rfl ?_
  refine vX5 (μ := mX9_tollOf) (pc := 6) (c0 := 9) (q0 := (RX9, TX9, 20)) (μ2 := mX9_given) dX9_tollOf_6 (hT.1 0 _ rfl) rfl lkX9_105 imX9_given seX9_X9_given_X9_given mwX9_given (Nat.le_of_ble_eq_true rfl) (k_given hT hb hR hI (kt := 2) (by decide) (nm := envT x y) (by intro pl hpl; match pl, hpl with | 0, _ => rfl | 1, _ => rfl)) (fun r_6 mi_6 h_6 => ?_)
  obtain ⟨rfl, h6⟩ := h_6
  exact r_iret (μ := mX9_tollOf) (pc := 9) dX9_tollOf_9 rfl rfl (PX_i ⟨rfl, h6⟩)

theorem k_lengthBetween {d : Nat} {sh : List Sh} {mi : MI} {mr : MR} {b : Nat} (hT : TB sh mr b) (hb : b + 11 < 76) {s : Rw} {n m p q : Nat} (hR : RT sh mi mr b s n m p q) (hI : Inv s n m p q) {x y : Nat} (hx : x < n) (hy : y < n) : CP (d + 3) mX9_lengthBetween [.ref b, .int (nI x), .int (nI y)] sh mi mr 0 0 (PX sh mr (fun r mi2 => r = lenS s q x y ∧ SP (b + 11) mi mi2)) := by
  have hn10 := hI.n10; have hm8 := hI.m8; have hp6 := hI.p6; have hq14 := hI.q14
  have hx1 := hI.hp hx; have hy1 := hI.hp hy
  have px := inB_up (c := 99) hx1.2 (by decide); have py := inB_up (c := 99) hy1.2 (by decide)
  refine CP.of (L := [_, _, _, _, _, _]) (by decide) rfl rfl (Nat.le_of_ble_eq_true rfl) ?_
  refine r_aload_n (μ := mX9_lengthBetween) (pc := 0) dX9_lengthBetween_0 rfl rfl rfl ?_
  refine r_getR (μ := mX9_lengthBetween) (pc := 1) dX9_lengthBetween_1 fpX9_15 rfl (hT.1 0 _ rfl) (by decide) (hT.2.1 _ _ rfl) ?_
  refine r_iload_n (μ := mX9_lengthBetween) (pc := 4) dX9_lengthBetween_4 rfl rfl ?_
  refine r_iaload (μ := mX9_lengthBetween) (pc := 5) (j := x) dX9_lengthBetween_5 (hT.1 _ _ rfl) rfl (by omega) (by decide) ?_
  rw [hR.hg hx]
  refine r_aload_n (μ := mX9_lengthBetween) (pc := 6) dX9_lengthBetween_6 rfl rfl rfl ?_
  refine r_getR (μ := mX9_lengthBetween) (pc := 7) dX9_lengthBetween_7 fpX9_15 rfl (hT.1 0 _ rfl) (by decide) (hT.2.1 _ _ rfl) ?_
  refine r_iload_n (μ := mX9_lengthBetween) (pc := 10) dX9_lengthBetween_10 rfl rfl ?_
  refine r_iaload (μ := mX9_lengthBetween) (pc := 11) (j := y) dX9_lengthBetween_11 (hT.1 _ _ rfl) rfl (by omega) (by decide) ?_
  rw [hR.hg hy]
  refine r_isub (μ := mX9_lengthBetween) (pc := 12) dX9_lengthBetween_12 ?_
  refine r_mabs (μ := mX9_lengthBetween) (pc := 13) dX9_lengthBetween_13 lkX9_109 (Nat.le_of_ble_eq_true rfl) ?_
  rw [ab_ap hx1.1 hy1.1]
  refine s_istore_n (μ := mX9_lengthBetween) (pc := 16) (L2 := [_, _, _, _, _, _]) dX9_lengthBetween_16 rfl (Nat.le_of_ble_eq_true rfl) (Nat.le_of_ble_eq_true rfl) rfl rfl ?_
  refine r_aload_n (μ := mX9_lengthBetween) (pc := 17) dX9_lengthBetween_17 rfl rfl rfl ?_
  refine r_getR (μ := mX9_lengthBetween) (pc := 18) dX9_lengthBetween_18 fpX9_19 rfl (hT.1 0 _ rfl) (by decide) (hT.2.1 _ _ rfl) ?_
  refine r_iload_n (μ := mX9_lengthBetween) (pc := 21) dX9_lengthBetween_21 rfl rfl ?_
  refine r_iaload (μ := mX9_lengthBetween) (pc := 22) (j := x) dX9_lengthBetween_22 (hT.1 _ _ rfl) rfl (by omega) (by decide) ?_
  rw [hR.pl hx]
  refine r_aload_n (μ := mX9_lengthBetween) (pc := 23) dX9_lengthBetween_23 rfl rfl rfl ?_
  refine r_getR (μ := mX9_lengthBetween) (pc := 24) dX9_lengthBetween_24 fpX9_19 rfl (hT.1 0 _ rfl) (by decide) (hT.2.1 _ _ rfl) ?_
  refine r_iload_n (μ := mX9_lengthBetween) (pc := 27) dX9_lengthBetween_27 rfl rfl ?_
  refine r_iaload (μ := mX9_lengthBetween) (pc := 28) (j := y) dX9_lengthBetween_28 (hT.1 _ _ rfl) rfl (by omega) (by decide) ?_
  rw [hR.pl hy]
  refine r_isub (μ := mX9_lengthBetween) (pc := 29) dX9_lengthBetween_29 ?_
  refine r_mabs (μ := mX9_lengthBetween) (pc := 30) dX9_lengthBetween_30 lkX9_109 (Nat.le_of_ble_eq_true rfl) ?_
  rw [ab_ap px py]
  refine s_istore (μ := mX9_lengthBetween) (pc := 33) (L2 := [_, _, _, _, _, _]) dX9_lengthBetween_33 (Nat.le_of_ble_eq_true rfl) (Nat.le_of_ble_eq_true rfl) rfl rfl ?_
  refine r_aload_n (μ := mX9_lengthBetween) (pc := 35) dX9_lengthBetween_35 rfl rfl rfl ?_
  refine r_iconst (μ := mX9_lengthBetween) (pc := 36) (v := 0) dX9_lengthBetween_36 ic_0 ?_
  refine r_iload_n (μ := mX9_lengthBetween) (pc := 37) dX9_lengthBetween_37 rfl rfl ?_
  refine r_iload (μ := mX9_lengthBetween) (pc := 38) dX9_lengthBetween_38 rfl ?_
  refine r_iconst (μ := mX9_lengthBetween) (pc := 40) (v := 0) dX9_lengthBetween_40 ic_0 ?_
  refine r_iload_n (μ := mX9_lengthBetween) (pc := 41) dX9_lengthBetween_41 rfl rfl ?_
  refine r_iload (μ := mX9_lengthBetween) (pc := 42) dX9_lengthBetween_42 rfl ?_
  refine r_iadd (μ := mX9_lengthBetween) (pc := 44) dX9_lengthBetween_44 ?_
  refine vX5 (μ := mX9_lengthBetween) (pc := 45) (c0 := 9) (q0 := (RX9, TX9, 20)) (μ2 := mX9_given) dX9_lengthBetween_45 (hT.1 0 _ rfl) rfl lkX9_105 imX9_given seX9_X9_given_X9_given mwX9_given (Nat.le_of_ble_eq_true rfl) (k_given hT hb hR hI (kt := 0) (by decide) (nm := envL (apartS (hgt s x) (hgt s y)) (apartS (plc s x) (plc s y))) (by intro pl hpl; match pl, hpl with | 0, _ => rfl | 1, _ => rfl)) (fun r_45 mi_45 h_45 => ?_)
  obtain ⟨rfl, h45⟩ := h_45
  refine s_istore (μ := mX9_lengthBetween) (pc := 48) (L2 := [_, _, _, _, _, _]) dX9_lengthBetween_48 (Nat.le_of_ble_eq_true rfl) (Nat.le_of_ble_eq_true rfl) rfl rfl ?_
  refine r_iconst (μ := mX9_lengthBetween) (pc := 50) (v := 0) dX9_lengthBetween_50 ic_0 ?_
  refine r_sipush (μ := mX9_lengthBetween) (pc := 51) (v := 999) dX9_lengthBetween_51 sp_999 ?_
  refine r_iload (μ := mX9_lengthBetween) (pc := 54) dX9_lengthBetween_54 rfl ?_
  refine r_mmin (μ := mX9_lengthBetween) (pc := 56) dX9_lengthBetween_56 lkX9_81 (Nat.le_of_ble_eq_true rfl) ?_
  refine r_mmax (μ := mX9_lengthBetween) (pc := 59) dX9_lengthBetween_59 lkX9_113 (Nat.le_of_ble_eq_true rfl) ?_
  rw [mx_mn _ 999 (by decide)]
  exact r_iret (μ := mX9_lengthBetween) (pc := 62) dX9_lengthBetween_62 rfl rfl (PX_i ⟨len_k hx1.1 hy1.1 px py, h45⟩)

theorem k_reachOf {d : Nat} {sh : List Sh} {mi : MI} {mr : MR} {b : Nat} (hT : TB sh mr b) (hb : b + 11 < 76) {s : Rw} {n m p q : Nat} (hR : RT sh mi mr b s n m p q) (hI : Inv s n m p q) {l : Nat} (hl : l < m) : CP (d + 3) mX9_reachOf [.ref b, .int (nI l)] sh mi mr 0 0 (PI (rchK (knd s l) (lng s l)) sh mi mr) := by
  have hn10 := hI.n10; have hm8 := hI.m8; have hp6 := hI.p6; have hq14 := hI.q14
  have ek : knd s l = nI (kN s l) := hI.k hl
  refine CP.of (L := [_, _]) (by decide) rfl rfl (Nat.le_of_ble_eq_true rfl) ?_
  refine r_aload_n (μ := mX9_reachOf) (pc := 0) dX9_reachOf_0 rfl rfl rfl ?_
  refine r_getR (μ := mX9_reachOf) (pc := 1) dX9_reachOf_1 fpX9_73 rfl (hT.1 0 _ rfl) (by decide) hT.2.2.1 ?_
  refine r_aload_n (μ := mX9_reachOf) (pc := 4) dX9_reachOf_4 rfl rfl rfl ?_
  refine r_getR (μ := mX9_reachOf) (pc := 5) dX9_reachOf_5 fpX9_25 rfl (hT.1 0 _ rfl) (by decide) (hT.2.1 _ _ rfl) ?_
  refine r_iload_n (μ := mX9_reachOf) (pc := 8) dX9_reachOf_8 rfl rfl ?_
  refine r_iaload (μ := mX9_reachOf) (pc := 9) (j := l) dX9_reachOf_9 (hT.1 _ _ rfl) rfl (by omega) (by decide) ?_
  rw [hR.kd hl, ek]
  refine r_aaload (μ := mX9_reachOf) (pc := 10) (t := 0) dX9_reachOf_10 (by decide) hT.2.2.2.1 rfl (hI.k6 hl) (by decide) (hT.2.2.2.2.1 _ (hI.k6 hl)) ?_
  refine r_aload_n (μ := mX9_reachOf) (pc := 11) dX9_reachOf_11 rfl rfl rfl ?_
  refine r_getR (μ := mX9_reachOf) (pc := 12) dX9_reachOf_12 fpX9_28 rfl (hT.1 0 _ rfl) (by decide) (hT.2.1 _ _ rfl) ?_
  refine r_iload_n (μ := mX9_reachOf) (pc := 15) dX9_reachOf_15 rfl rfl ?_
  refine r_iaload (μ := mX9_reachOf) (pc := 16) (j := l) dX9_reachOf_16 (hT.1 _ _ rfl) rfl (by omega) (by decide) ?_
  rw [hR.ln hl]
  refine kv_reach (μ := mX9_reachOf) (pc := 17) dX9_reachOf_17 lkX9_116 hT.2.2.2 (hI.k6 hl) (hI.ln hl) (Nat.le_of_ble_eq_true rfl) ?_
  exact r_iret (μ := mX9_reachOf) (pc := 20) dX9_reachOf_20 rfl rfl (PI_i rfl)

theorem k_minutesOf {d : Nat} {sh : List Sh} {mi : MI} {mr : MR} {b : Nat} (hT : TB sh mr b) (hb : b + 11 < 76) {s : Rw} {n m p q : Nat} (hR : RT sh mi mr b s n m p q) (hI : Inv s n m p q) {l : Nat} (hl : l < m) : CP (d + 3) mX9_minutesOf [.ref b, .int (nI l)] sh mi mr 0 0 (PI (mntN s l (tN s l) (fN s l)) sh mi mr) := by
  have hn10 := hI.n10; have hm8 := hI.m8; have hp6 := hI.p6; have hq14 := hI.q14
  have ek : knd s l = nI (kN s l) := hI.k hl
  have et : tpp s l = nI (tN s l) := hI.t hl; have ef : fot s l = nI (fN s l) := hI.f hl; have htn := hI.tn hl; have hfn := hI.fn hl
  refine CP.of (L := [_, _, _]) (by decide) rfl rfl (Nat.le_of_ble_eq_true rfl) ?_
  refine r_iconst (μ := mX9_minutesOf) (pc := 0) (v := 0) dX9_minutesOf_0 ic_0 ?_
  refine r_aload_n (μ := mX9_minutesOf) (pc := 1) dX9_minutesOf_1 rfl rfl rfl ?_
  refine r_getR (μ := mX9_minutesOf) (pc := 2) dX9_minutesOf_2 fpX9_15 rfl (hT.1 0 _ rfl) (by decide) (hT.2.1 _ _ rfl) ?_
  refine r_aload_n (μ := mX9_minutesOf) (pc := 5) dX9_minutesOf_5 rfl rfl rfl ?_
  refine r_getR (μ := mX9_minutesOf) (pc := 6) dX9_minutesOf_6 fpX9_34 rfl (hT.1 0 _ rfl) (by decide) (hT.2.1 _ _ rfl) ?_
  refine r_iload_n (μ := mX9_minutesOf) (pc := 9) dX9_minutesOf_9 rfl rfl ?_
  refine r_iaload (μ := mX9_minutesOf) (pc := 10) (j := l) dX9_minutesOf_10 (hT.1 _ _ rfl) rfl (by omega) (by decide) ?_
  rw [hR.tp hl, et]
  refine r_iaload (μ := mX9_minutesOf) (pc := 11) (j := tN s l) dX9_minutesOf_11 (hT.1 _ _ rfl) rfl (by omega) (by decide) ?_
  rw [hR.hg htn]
  refine r_aload_n (μ := mX9_minutesOf) (pc := 12) dX9_minutesOf_12 rfl rfl rfl ?_
  refine r_getR (μ := mX9_minutesOf) (pc := 13) dX9_minutesOf_13 fpX9_15 rfl (hT.1 0 _ rfl) (by decide) (hT.2.1 _ _ rfl) ?_
  refine r_aload_n (μ := mX9_minutesOf) (pc := 16) dX9_minutesOf_16 rfl rfl rfl ?_
  refine r_getR (μ := mX9_minutesOf) (pc := 17) dX9_minutesOf_17 fpX9_31 rfl (hT.1 0 _ rfl) (by decide) (hT.2.1 _ _ rfl) ?_
  refine r_iload_n (μ := mX9_minutesOf) (pc := 20) dX9_minutesOf_20 rfl rfl ?_
  refine r_iaload (μ := mX9_minutesOf) (pc := 21) (j := l) dX9_minutesOf_21 (hT.1 _ _ rfl) rfl (by omega) (by decide) ?_
  rw [hR.ft hl, ef]
  refine r_iaload (μ := mX9_minutesOf) (pc := 22) (j := fN s l) dX9_minutesOf_22 (hT.1 _ _ rfl) rfl (by omega) (by decide) ?_
  rw [hR.hg hfn]
  refine r_isub (μ := mX9_minutesOf) (pc := 23) dX9_minutesOf_23 ?_
  refine r_mmax (μ := mX9_minutesOf) (pc := 24) dX9_minutesOf_24 lkX9_113 (Nat.le_of_ble_eq_true rfl) ?_
  rw [mx0]
  refine s_istore_n (μ := mX9_minutesOf) (pc := 27) (L2 := [_, _, _]) dX9_minutesOf_27 rfl (Nat.le_of_ble_eq_true rfl) (Nat.le_of_ble_eq_true rfl) rfl rfl ?_
  refine r_aload_n (μ := mX9_minutesOf) (pc := 28) dX9_minutesOf_28 rfl rfl rfl ?_
  refine r_getR (μ := mX9_minutesOf) (pc := 29) dX9_minutesOf_29 fpX9_73 rfl (hT.1 0 _ rfl) (by decide) hT.2.2.1 ?_
  refine r_aload_n (μ := mX9_minutesOf) (pc := 32) dX9_minutesOf_32 rfl rfl rfl ?_
  refine r_getR (μ := mX9_minutesOf) (pc := 33) dX9_minutesOf_33 fpX9_25 rfl (hT.1 0 _ rfl) (by decide) (hT.2.1 _ _ rfl) ?_
  refine r_iload_n (μ := mX9_minutesOf) (pc := 36) dX9_minutesOf_36 rfl rfl ?_
  refine r_iaload (μ := mX9_minutesOf) (pc := 37) (j := l) dX9_minutesOf_37 (hT.1 _ _ rfl) rfl (by omega) (by decide) ?_
  rw [hR.kd hl, ek]
  refine r_aaload (μ := mX9_minutesOf) (pc := 38) (t := 0) dX9_minutesOf_38 (by decide) hT.2.2.2.1 rfl (hI.k6 hl) (by decide) (hT.2.2.2.2.1 _ (hI.k6 hl)) ?_
  refine r_iload_n (μ := mX9_minutesOf) (pc := 39) dX9_minutesOf_39 rfl rfl ?_
  refine kv_minutes (μ := mX9_minutesOf) (pc := 40) dX9_minutesOf_40 lkX9_121 hT.2.2.2 (hI.k6 hl) (Nat.le_of_ble_eq_true rfl) ?_
  exact r_iret (μ := mX9_minutesOf) (pc := 43) dX9_minutesOf_43 rfl rfl (PI_i (by unfold mntN riseN; rw [ek]))

theorem k_inReach {d : Nat} {sh : List Sh} {mi : MI} {mr : MR} {b : Nat} (hT : TB sh mr b) (hb : b + 11 < 76) {s : Rw} {n m p q : Nat} (hR : RT sh mi mr b s n m p q) (hI : Inv s n m p q) {l x : Nat} (hl : l < m) (hx : x < n) : CP (d + 4) mX9_inReach [.ref b, .int (nI l), .int (nI x)] sh mi mr 0 0 (PX sh mr (fun r mi2 => r = b2i (rchS s q l x) ∧ SP (b + 11) mi mi2)) := by
  have hn10 := hI.n10; have hm8 := hI.m8; have hp6 := hI.p6; have hq14 := hI.q14
  have ef : fot s l = nI (fN s l) := hI.f hl; have hfn := hI.fn hl
  refine CP.of (L := [_, _, _, _]) (by decide) rfl rfl (Nat.le_of_ble_eq_true rfl) ?_
  refine r_aload_n (μ := mX9_inReach) (pc := 0) dX9_inReach_0 rfl rfl rfl ?_
  refine r_getR (μ := mX9_inReach) (pc := 1) dX9_inReach_1 fpX9_31 rfl (hT.1 0 _ rfl) (by decide) (hT.2.1 _ _ rfl) ?_
  refine r_iload_n (μ := mX9_inReach) (pc := 4) dX9_inReach_4 rfl rfl ?_
  refine r_iaload (μ := mX9_inReach) (pc := 5) (j := l) dX9_inReach_5 (hT.1 _ _ rfl) rfl (by omega) (by decide) ?_
  rw [hR.ft hl, ef]
  refine s_istore_n (μ := mX9_inReach) (pc := 6) (L2 := [_, _, _, _]) dX9_inReach_6 rfl (Nat.le_of_ble_eq_true rfl) (Nat.le_of_ble_eq_true rfl) rfl rfl ?_
  refine r_aload_n (μ := mX9_inReach) (pc := 7) dX9_inReach_7 rfl rfl rfl ?_
  refine r_getR (μ := mX9_inReach) (pc := 8) dX9_inReach_8 fpX9_15 rfl (hT.1 0 _ rfl) (by decide) (hT.2.1 _ _ rfl) ?_
  refine r_iload_n (μ := mX9_inReach) (pc := 11) dX9_inReach_11 rfl rfl ?_
  refine r_iaload (μ := mX9_inReach) (pc := 12) (j := x) dX9_inReach_12 (hT.1 _ _ rfl) rfl (by omega) (by decide) ?_
  rw [hR.hg hx]
  refine r_aload_n (μ := mX9_inReach) (pc := 13) dX9_inReach_13 rfl rfl rfl ?_
  refine r_getR (μ := mX9_inReach) (pc := 14) dX9_inReach_14 fpX9_15 rfl (hT.1 0 _ rfl) (by decide) (hT.2.1 _ _ rfl) ?_
  refine r_iload_n (μ := mX9_inReach) (pc := 17) dX9_inReach_17 rfl rfl ?_
  refine r_iaload (μ := mX9_inReach) (pc := 18) (j := fN s l) dX9_inReach_18 (hT.1 _ _ rfl) rfl (by omega) (by decide) ?_
  rw [hR.hg hfn]
  refine r_icmp_le (μ := mX9_inReach) (pc := 19) (tgt := 40) dX9_inReach_19 (by decide) (fun h_19 => ?_) (fun h_19 => ?_)
  · refine r_iconst (μ := mX9_inReach) (pc := 40) (v := 0) dX9_inReach_40 ic_0 ?_
    exact r_iret (μ := mX9_inReach) (pc := 41) dX9_inReach_41 rfl rfl (PX_i ⟨by unfold rchS; first | (rw [decide_eq_false (Int32.not_lt.mpr h_19)]; rfl) | (rw [decide_eq_true (Int32.not_le.mp h_19)]; first | (rw [decide_eq_false (Int32.not_le.mpr h_33)]; rfl) | (rw [decide_eq_true (Int32.not_lt.mp h_33)]; rfl)), by first | exact SP.rf _ _ | exact h25⟩)
  · refine r_aload_n (μ := mX9_inReach) (pc := 22) dX9_inReach_22 rfl rfl rfl ?_
    refine r_iload_n (μ := mX9_inReach) (pc := 23) dX9_inReach_23 rfl rfl ?_
    refine r_iload_n (μ := mX9_inReach) (pc := 24) dX9_inReach_24 rfl rfl ?_
    refine vX2 (μ := mX9_inReach) (pc := 25) (c0 := 9) (q0 := (RX9, TX9, 20)) (μ2 := mX9_lengthBetween) dX9_inReach_25 (hT.1 0 _ rfl) rfl lkX9_124 imX9_lengthBetween seX9_X9_lengthBetween_X9_lengthBetween mwX9_lengthBetween (Nat.le_of_ble_eq_true rfl) (k_lengthBetween hT hb hR hI hfn hx) (fun r_25 mi_25 h_25 => ?_)
    obtain ⟨rfl, h25⟩ := h_25
    refine r_aload_n (μ := mX9_inReach) (pc := 28) dX9_inReach_28 rfl rfl rfl ?_
    refine r_iload_n (μ := mX9_inReach) (pc := 29) dX9_inReach_29 rfl rfl ?_
    refine vP1 (μ := mX9_inReach) (pc := 30) (c0 := 9) (q0 := (RX9, TX9, 20)) (μ2 := mX9_reachOf) dX9_inReach_30 (hT.1 0 _ rfl) rfl lkX9_127 imX9_reachOf seX9_X9_reachOf_X9_reachOf mwX9_reachOf (Nat.le_of_ble_eq_true rfl) (k_reachOf hT hb (hR.ss hb h25) hI hl) ?_
    refine r_icmp_gt (μ := mX9_inReach) (pc := 33) (tgt := 40) dX9_inReach_33 (by decide) (fun h_33 => ?_) (fun h_33 => ?_)
    · refine r_iconst (μ := mX9_inReach) (pc := 40) (v := 0) dX9_inReach_40 ic_0 ?_
      exact r_iret (μ := mX9_inReach) (pc := 41) dX9_inReach_41 rfl rfl (PX_i ⟨by unfold rchS; first | (rw [decide_eq_false (Int32.not_lt.mpr h_19)]; rfl) | (rw [decide_eq_true (Int32.not_le.mp h_19)]; first | (rw [decide_eq_false (Int32.not_le.mpr h_33)]; rfl) | (rw [decide_eq_true (Int32.not_lt.mp h_33)]; rfl)), by first | exact SP.rf _ _ | exact h25⟩)
    · refine r_iconst (μ := mX9_inReach) (pc := 36) (v := 1) dX9_inReach_36 ic_1 ?_
      refine r_goto (μ := mX9_inReach) (pc := 37) (tgt := 41) dX9_inReach_37 (by decide) ?_
      exact r_iret (μ := mX9_inReach) (pc := 41) dX9_inReach_41 rfl rfl (PX_i ⟨by unfold rchS; first | (rw [decide_eq_false (Int32.not_lt.mpr h_19)]; rfl) | (rw [decide_eq_true (Int32.not_le.mp h_19)]; first | (rw [decide_eq_false (Int32.not_le.mpr h_33)]; rfl) | (rw [decide_eq_true (Int32.not_lt.mp h_33)]; rfl)), by first | exact SP.rf _ _ | exact h25⟩)

theorem k_standsNow {d : Nat} {sh : List Sh} {mi : MI} {mr : MR} {b : Nat} (hT : TB sh mr b) (hb : b + 11 < 76) {s : Rw} {n m p q : Nat} (hR : RT sh mi mr b s n m p q) (hI : Inv s n m p q) {l : Nat} (hl : l < m) : CP (d + 5) mX9_standsNow [.ref b, .int (nI l)] sh mi mr 0 0 (PX sh mr (fun r mi2 => r = b2i (stdS s q l) ∧ SP (b + 11) mi mi2)) := by
  have hn10 := hI.n10; have hm8 := hI.m8; have hp6 := hI.p6; have hq14 := hI.q14
  have et : tpp s l = nI (tN s l) := hI.t hl
  refine CP.of (L := [_, _]) (by decide) rfl rfl (Nat.le_of_ble_eq_true rfl) ?_
  refine r_aload_n (μ := mX9_standsNow) (pc := 0) dX9_standsNow_0 rfl rfl rfl ?_
  refine r_iload_n (μ := mX9_standsNow) (pc := 1) dX9_standsNow_1 rfl rfl ?_
  refine r_aload_n (μ := mX9_standsNow) (pc := 2) dX9_standsNow_2 rfl rfl rfl ?_
  refine r_getR (μ := mX9_standsNow) (pc := 3) dX9_standsNow_3 fpX9_34 rfl (hT.1 0 _ rfl) (by decide) (hT.2.1 _ _ rfl) ?_
  refine r_iload_n (μ := mX9_standsNow) (pc := 6) dX9_standsNow_6 rfl rfl ?_
  refine r_iaload (μ := mX9_standsNow) (pc := 7) (j := l) dX9_standsNow_7 (hT.1 _ _ rfl) rfl (by omega) (by decide) ?_
  rw [hR.tp hl, et]
  refine vX2 (μ := mX9_standsNow) (pc := 8) (c0 := 9) (q0 := (RX9, TX9, 20)) (μ2 := mX9_inReach) dX9_standsNow_8 (hT.1 0 _ rfl) rfl lkX9_130 imX9_inReach seX9_X9_inReach_X9_inReach mwX9_inReach (Nat.le_of_ble_eq_true rfl) (k_inReach hT hb hR hI hl (hI.tn hl)) (fun r_8 mi_8 h_8 => ?_)
  obtain ⟨rfl, h8⟩ := h_8
  exact r_iret (μ := mX9_standsNow) (pc := 11) dX9_standsNow_11 rfl (nar_b2i _) (PX_i ⟨rfl, h8⟩)

theorem lp_ledgesInReach {d : Nat} {sh : List Sh} {mi : MI} {mr : MR} {Q : QT} {b : Nat} (hT : TB sh mr b) (hb : b + 11 < 76) {s : Rw} {n m p q : Nat} (hR : RT sh mi mr b s n m p q) (hI : Inv s n m p q) {l : Nat} (hl : l < m) (hq : ∀ mi2, SP (b + 11) mi mi2 → Q (some (.int (bitsB (rchS s q l) n))) sh mi2 mr) :
    ∀ (k i : Nat), i + k = n → ∀ mi2, SP (b + 11) mi mi2 → WP (d + 5) mX9_ledgesInReach 4 [.ref b, .int (nI l), .int (bitsB (rchS s q l) i), .int (nI i)] [] sh mi2 mr 0 0 Q := by
  have hn10 := hI.n10; have hm8 := hI.m8; have hp6 := hI.p6; have hq14 := hI.q14
  intro k
  induction k with
  | zero =>
    intro i hk mi2 hS
    obtain rfl : i = n := by omega
    refine r_iload_n (μ := mX9_ledgesInReach) (pc := 4) dX9_ledgesInReach_4 rfl rfl ?_
    refine r_aload_n (μ := mX9_ledgesInReach) (pc := 5) dX9_ledgesInReach_5 rfl rfl rfl ?_
    refine r_getI (μ := mX9_ledgesInReach) (pc := 6) dX9_ledgesInReach_6 fpX9_9 rfl (hT.1 0 _ rfl) (by decide) ?_
    rw [(hR.ss hb hS).en]
    refine r_icmp_ge (μ := mX9_ledgesInReach) (pc := 9) (tgt := 33) dX9_ledgesInReach_9 (by decide) (fun h_9 => ?_) (fun h_9 => absurd (nI_le (Nat.le_refl _) (by omega)) h_9)
    refine r_iload_n (μ := mX9_ledgesInReach) (pc := 33) dX9_ledgesInReach_33 rfl rfl ?_
    exact r_iret (μ := mX9_ledgesInReach) (pc := 34) dX9_ledgesInReach_34 rfl rfl (hq mi2 hS)
  | succ k ih =>
    intro i hk mi2 hS
    have hi : i < n := by omega
    refine r_iload_n (μ := mX9_ledgesInReach) (pc := 4) dX9_ledgesInReach_4 rfl rfl ?_
    refine r_aload_n (μ := mX9_ledgesInReach) (pc := 5) dX9_ledgesInReach_5 rfl rfl rfl ?_
    refine r_getI (μ := mX9_ledgesInReach) (pc := 6) dX9_ledgesInReach_6 fpX9_9 rfl (hT.1 0 _ rfl) (by decide) ?_
    rw [(hR.ss hb hS).en]
    refine r_icmp_ge (μ := mX9_ledgesInReach) (pc := 9) (tgt := 33) dX9_ledgesInReach_9 (by decide) (fun h_9 => absurd h_9 (nI_ge (by omega) (by omega))) (fun h_9 => ?_)
    refine r_aload_n (μ := mX9_ledgesInReach) (pc := 12) dX9_ledgesInReach_12 rfl rfl rfl ?_
    refine r_iload_n (μ := mX9_ledgesInReach) (pc := 13) dX9_ledgesInReach_13 rfl rfl ?_
    refine r_iload_n (μ := mX9_ledgesInReach) (pc := 14) dX9_ledgesInReach_14 rfl rfl ?_
    refine vX2 (μ := mX9_ledgesInReach) (pc := 15) (c0 := 9) (q0 := (RX9, TX9, 20)) (μ2 := mX9_inReach) dX9_ledgesInReach_15 (hT.1 0 _ rfl) rfl lkX9_130 imX9_inReach seX9_X9_inReach_X9_inReach mwX9_inReach (Nat.le_of_ble_eq_true rfl) (k_inReach hT hb (hR.ss hb hS) hI hl hi) (fun r_15 mi_15 h_15 => ?_)
    obtain ⟨rfl, h15⟩ := h_15
    refine r_if_eq (μ := mX9_ledgesInReach) (pc := 18) (tgt := 27) dX9_ledgesInReach_18 (by decide) (fun h_18 => ?_) (fun h_18 => ?_)
    · have h_18 := b2i_0 h_18
      refine s_iinc (μ := mX9_ledgesInReach) (pc := 27) (c := 1) (L2 := [_, _, _, _]) dX9_ledgesInReach_27 rfl ic_1 (Nat.le_of_ble_eq_true rfl) rfl rfl ?_
      refine r_goto (μ := mX9_ledgesInReach) (pc := 30) (tgt := 4) dX9_ledgesInReach_30 (by decide) ?_
      exact WP.L (by simp [bitsB, nI_succ, h_18]) (ih (i + 1) (by omega) _ (hS.tr h15))
    · have h_18 := b2i_1 h_18
      refine r_iload_n (μ := mX9_ledgesInReach) (pc := 21) dX9_ledgesInReach_21 rfl rfl ?_
      refine r_iconst (μ := mX9_ledgesInReach) (pc := 22) (v := 1) dX9_ledgesInReach_22 ic_1 ?_
      refine r_iload_n (μ := mX9_ledgesInReach) (pc := 23) dX9_ledgesInReach_23 rfl rfl ?_
      refine r_ishl (μ := mX9_ledgesInReach) (pc := 24) dX9_ledgesInReach_24 ?_
      refine r_ior (μ := mX9_ledgesInReach) (pc := 25) dX9_ledgesInReach_25 ?_
      refine s_istore_n (μ := mX9_ledgesInReach) (pc := 26) (L2 := [_, _, _, _]) dX9_ledgesInReach_26 rfl (Nat.le_of_ble_eq_true rfl) (Nat.le_of_ble_eq_true rfl) rfl rfl ?_
      refine s_iinc (μ := mX9_ledgesInReach) (pc := 27) (c := 1) (L2 := [_, _, _, _]) dX9_ledgesInReach_27 rfl ic_1 (Nat.le_of_ble_eq_true rfl) rfl rfl ?_
      refine r_goto (μ := mX9_ledgesInReach) (pc := 30) (tgt := 4) dX9_ledgesInReach_30 (by decide) ?_
      exact WP.L (by simp [bitsB, nI_succ, h_18]) (ih (i + 1) (by omega) _ (hS.tr h15))

theorem k_ledgesInReach {d : Nat} {sh : List Sh} {mi : MI} {mr : MR} {b : Nat} (hT : TB sh mr b) (hb : b + 11 < 76) {s : Rw} {n m p q : Nat} (hR : RT sh mi mr b s n m p q) (hI : Inv s n m p q) {l : Nat} (hl : l < m) : CP (d + 5) mX9_ledgesInReach [.ref b, .int (nI l)] sh mi mr 0 0 (PX sh mr (fun r mi2 => r = bitsB (rchS s q l) n ∧ SP (b + 11) mi mi2)) := by
  have hn10 := hI.n10; have hm8 := hI.m8; have hp6 := hI.p6; have hq14 := hI.q14
  refine CP.of (L := [_, _, _, _]) (by decide) rfl rfl (Nat.le_of_ble_eq_true rfl) ?_
  refine r_iconst (μ := mX9_ledgesInReach) (pc := 0) (v := 0) dX9_ledgesInReach_0 ic_0 ?_
  refine s_istore_n (μ := mX9_ledgesInReach) (pc := 1) (L2 := [_, _, _, _]) dX9_ledgesInReach_1 rfl (Nat.le_of_ble_eq_true rfl) (Nat.le_of_ble_eq_true rfl) rfl rfl ?_
  refine r_iconst (μ := mX9_ledgesInReach) (pc := 2) (v := 0) dX9_ledgesInReach_2 ic_0 ?_
  refine s_istore_n (μ := mX9_ledgesInReach) (pc := 3) (L2 := [_, _, _, _]) dX9_ledgesInReach_3 rfl (Nat.le_of_ble_eq_true rfl) (Nat.le_of_ble_eq_true rfl) rfl rfl ?_
  exact lp_ledgesInReach hT hb hR hI hl (fun mi2 h => PX_i ⟨rfl, h⟩) n 0 (Nat.zero_add _) mi (SP.rf _ _)

theorem lp_standingCount {d : Nat} {sh : List Sh} {mi : MI} {mr : MR} {Q : QT} {b : Nat} (hT : TB sh mr b) (hb : b + 11 < 76) {s : Rw} {n m p q : Nat} (hR : RT sh mi mr b s n m p q) (hI : Inv s n m p q) (hq : ∀ mi2, SP (b + 11) mi mi2 → Q (some (.int (nI (cntB (stdS s q) m)))) sh mi2 mr) :
    ∀ (k i : Nat), i + k = m → ∀ mi2, SP (b + 11) mi mi2 → WP (d + 6) mX9_standingCount 4 [.ref b, .int (nI (cntB (stdS s q) i)), .int (nI i)] [] sh mi2 mr 0 0 Q := by
  have hn10 := hI.n10; have hm8 := hI.m8; have hp6 := hI.p6; have hq14 := hI.q14
  intro k
  induction k with
  | zero =>
    intro i hk mi2 hS
    obtain rfl : i = m := by omega
    refine r_iload_n (μ := mX9_standingCount) (pc := 4) dX9_standingCount_4 rfl rfl ?_
    refine r_aload_n (μ := mX9_standingCount) (pc := 5) dX9_standingCount_5 rfl rfl rfl ?_
    refine r_getI (μ := mX9_standingCount) (pc := 6) dX9_standingCount_6 fpX9_22 rfl (hT.1 0 _ rfl) (by decide) ?_
    rw [(hR.ss hb hS).em]
    refine r_icmp_ge (μ := mX9_standingCount) (pc := 9) (tgt := 29) dX9_standingCount_9 (by decide) (fun h_9 => ?_) (fun h_9 => absurd (nI_le (Nat.le_refl _) (by omega)) h_9)
    refine r_iload_n (μ := mX9_standingCount) (pc := 29) dX9_standingCount_29 rfl rfl ?_
    exact r_iret (μ := mX9_standingCount) (pc := 30) dX9_standingCount_30 rfl rfl (hq mi2 hS)
  | succ k ih =>
    intro i hk mi2 hS
    have hi : i < m := by omega
    refine r_iload_n (μ := mX9_standingCount) (pc := 4) dX9_standingCount_4 rfl rfl ?_
    refine r_aload_n (μ := mX9_standingCount) (pc := 5) dX9_standingCount_5 rfl rfl rfl ?_
    refine r_getI (μ := mX9_standingCount) (pc := 6) dX9_standingCount_6 fpX9_22 rfl (hT.1 0 _ rfl) (by decide) ?_
    rw [(hR.ss hb hS).em]
    refine r_icmp_ge (μ := mX9_standingCount) (pc := 9) (tgt := 29) dX9_standingCount_9 (by decide) (fun h_9 => absurd h_9 (nI_ge (by omega) (by omega))) (fun h_9 => ?_)
    refine r_aload_n (μ := mX9_standingCount) (pc := 12) dX9_standingCount_12 rfl rfl rfl ?_
    refine r_iload_n (μ := mX9_standingCount) (pc := 13) dX9_standingCount_13 rfl rfl ?_
    refine vX1 (μ := mX9_standingCount) (pc := 14) (c0 := 9) (q0 := (RX9, TX9, 20)) (μ2 := mX9_standsNow) dX9_standingCount_14 (hT.1 0 _ rfl) rfl lkX9_133 imX9_standsNow seX9_X9_standsNow_X9_standsNow mwX9_standsNow (Nat.le_of_ble_eq_true rfl) (k_standsNow hT hb (hR.ss hb hS) hI hi) (fun r_14 mi_14 h_14 => ?_)
    obtain ⟨rfl, h14⟩ := h_14
    refine r_if_eq (μ := mX9_standingCount) (pc := 17) (tgt := 23) dX9_standingCount_17 (by decide) (fun h_17 => ?_) (fun h_17 => ?_)
    · have h_17 := b2i_0 h_17
      refine s_iinc (μ := mX9_standingCount) (pc := 23) (c := 1) (L2 := [_, _, _]) dX9_standingCount_23 rfl ic_1 (Nat.le_of_ble_eq_true rfl) rfl rfl ?_
      refine r_goto (μ := mX9_standingCount) (pc := 26) (tgt := 4) dX9_standingCount_26 (by decide) ?_
      exact WP.L (by simp [cntB, nI_succ, h_17]) (ih (i + 1) (by omega) _ (hS.tr h14))
    · have h_17 := b2i_1 h_17
      refine s_iinc (μ := mX9_standingCount) (pc := 20) (c := 1) (L2 := [_, _, _]) dX9_standingCount_20 rfl ic_1 (Nat.le_of_ble_eq_true rfl) rfl rfl ?_
      refine s_iinc (μ := mX9_standingCount) (pc := 23) (c := 1) (L2 := [_, _, _]) dX9_standingCount_23 rfl ic_1 (Nat.le_of_ble_eq_true rfl) rfl rfl ?_
      refine r_goto (μ := mX9_standingCount) (pc := 26) (tgt := 4) dX9_standingCount_26 (by decide) ?_
      exact WP.L (by simp [cntB, nI_succ, h_17]) (ih (i + 1) (by omega) _ (hS.tr h14))

theorem k_standingCount {d : Nat} {sh : List Sh} {mi : MI} {mr : MR} {b : Nat} (hT : TB sh mr b) (hb : b + 11 < 76) {s : Rw} {n m p q : Nat} (hR : RT sh mi mr b s n m p q) (hI : Inv s n m p q) : CP (d + 6) mX9_standingCount [.ref b] sh mi mr 0 0 (PX sh mr (fun r mi2 => r = nI (cntB (stdS s q) m) ∧ SP (b + 11) mi mi2)) := by
  have hn10 := hI.n10; have hm8 := hI.m8; have hp6 := hI.p6; have hq14 := hI.q14
  refine CP.of (L := [_, _, _]) (by decide) rfl rfl (Nat.le_of_ble_eq_true rfl) ?_
  refine r_iconst (μ := mX9_standingCount) (pc := 0) (v := 0) dX9_standingCount_0 ic_0 ?_
  refine s_istore_n (μ := mX9_standingCount) (pc := 1) (L2 := [_, _, _]) dX9_standingCount_1 rfl (Nat.le_of_ble_eq_true rfl) (Nat.le_of_ble_eq_true rfl) rfl rfl ?_
  refine r_iconst (μ := mX9_standingCount) (pc := 2) (v := 0) dX9_standingCount_2 ic_0 ?_
  refine s_istore_n (μ := mX9_standingCount) (pc := 3) (L2 := [_, _, _]) dX9_standingCount_3 rfl (Nat.le_of_ble_eq_true rfl) (Nat.le_of_ble_eq_true rfl) rfl rfl ?_
  exact lp_standingCount hT hb hR hI (fun mi2 h => PX_i ⟨rfl, h⟩) m 0 (Nat.zero_add _) mi (SP.rf _ _)

theorem lp_laddersFrom {d : Nat} {sh : List Sh} {mi : MI} {mr : MR} {Q : QT} {b : Nat} (hT : TB sh mr b) (hb : b + 11 < 76) {s : Rw} {n m p q : Nat} (hR : RT sh mi mr b s n m p q) (hI : Inv s n m p q) {x : Int32} (hq : Q (some (.int (bitsB (fun l => decide (fot s l = x)) m))) sh mi mr) :
    ∀ (k i : Nat), i + k = m → WP (d) mX9_laddersFrom 4 [.ref b, .int x, .int (bitsB (fun l => decide (fot s l = x)) i), .int (nI i)] [] sh mi mr 0 0 Q := by
  have hn10 := hI.n10; have hm8 := hI.m8; have hp6 := hI.p6; have hq14 := hI.q14
  intro k
  induction k with
  | zero =>
    intro i hk
    obtain rfl : i = m := by omega
    refine r_iload_n (μ := mX9_laddersFrom) (pc := 4) dX9_laddersFrom_4 rfl rfl ?_
    refine r_aload_n (μ := mX9_laddersFrom) (pc := 5) dX9_laddersFrom_5 rfl rfl rfl ?_
    refine r_getI (μ := mX9_laddersFrom) (pc := 6) dX9_laddersFrom_6 fpX9_22 rfl (hT.1 0 _ rfl) (by decide) ?_
    rw [hR.em]
    refine r_icmp_ge (μ := mX9_laddersFrom) (pc := 9) (tgt := 34) dX9_laddersFrom_9 (by decide) (fun h_9 => ?_) (fun h_9 => absurd (nI_le (Nat.le_refl _) (by omega)) h_9)
    refine r_iload_n (μ := mX9_laddersFrom) (pc := 34) dX9_laddersFrom_34 rfl rfl ?_
    exact r_iret (μ := mX9_laddersFrom) (pc := 35) dX9_laddersFrom_35 rfl rfl hq
  | succ k ih =>
    intro i hk
    have hi : i < m := by omega
    refine r_iload_n (μ := mX9_laddersFrom) (pc := 4) dX9_laddersFrom_4 rfl rfl ?_
    refine r_aload_n (μ := mX9_laddersFrom) (pc := 5) dX9_laddersFrom_5 rfl rfl rfl ?_
    refine r_getI (μ := mX9_laddersFrom) (pc := 6) dX9_laddersFrom_6 fpX9_22 rfl (hT.1 0 _ rfl) (by decide) ?_
    rw [hR.em]
    refine r_icmp_ge (μ := mX9_laddersFrom) (pc := 9) (tgt := 34) dX9_laddersFrom_9 (by decide) (fun h_9 => absurd h_9 (nI_ge (by omega) (by omega))) (fun h_9 => ?_)
    refine r_aload_n (μ := mX9_laddersFrom) (pc := 12) dX9_laddersFrom_12 rfl rfl rfl ?_
    refine r_getR (μ := mX9_laddersFrom) (pc := 13) dX9_laddersFrom_13 fpX9_31 rfl (hT.1 0 _ rfl) (by decide) (hT.2.1 _ _ rfl) ?_
    refine r_iload_n (μ := mX9_laddersFrom) (pc := 16) dX9_laddersFrom_16 rfl rfl ?_
    refine r_iaload (μ := mX9_laddersFrom) (pc := 17) (j := i) dX9_laddersFrom_17 (hT.1 _ _ rfl) rfl (by omega) (by decide) ?_
    rw [hR.ft hi]
    refine r_iload_n (μ := mX9_laddersFrom) (pc := 18) dX9_laddersFrom_18 rfl rfl ?_
    refine r_icmp_ne (μ := mX9_laddersFrom) (pc := 19) (tgt := 28) dX9_laddersFrom_19 (by decide) (fun h_19 => ?_) (fun h_19 => ?_)
    · refine s_iinc (μ := mX9_laddersFrom) (pc := 28) (c := 1) (L2 := [_, _, _, _]) dX9_laddersFrom_28 rfl ic_1 (Nat.le_of_ble_eq_true rfl) rfl rfl ?_
      refine r_goto (μ := mX9_laddersFrom) (pc := 31) (tgt := 4) dX9_laddersFrom_31 (by decide) ?_
      exact WP.L (by simp [bitsB, nI_succ, h_19]) (ih (i + 1) (by omega))
    · refine r_iload_n (μ := mX9_laddersFrom) (pc := 22) dX9_laddersFrom_22 rfl rfl ?_
      refine r_iconst (μ := mX9_laddersFrom) (pc := 23) (v := 1) dX9_laddersFrom_23 ic_1 ?_
      refine r_iload_n (μ := mX9_laddersFrom) (pc := 24) dX9_laddersFrom_24 rfl rfl ?_
      refine r_ishl (μ := mX9_laddersFrom) (pc := 25) dX9_laddersFrom_25 ?_
      refine r_ior (μ := mX9_laddersFrom) (pc := 26) dX9_laddersFrom_26 ?_
      refine s_istore_n (μ := mX9_laddersFrom) (pc := 27) (L2 := [_, _, _, _]) dX9_laddersFrom_27 rfl (Nat.le_of_ble_eq_true rfl) (Nat.le_of_ble_eq_true rfl) rfl rfl ?_
      refine s_iinc (μ := mX9_laddersFrom) (pc := 28) (c := 1) (L2 := [_, _, _, _]) dX9_laddersFrom_28 rfl ic_1 (Nat.le_of_ble_eq_true rfl) rfl rfl ?_
      refine r_goto (μ := mX9_laddersFrom) (pc := 31) (tgt := 4) dX9_laddersFrom_31 (by decide) ?_
      exact WP.L (by simp [bitsB, nI_succ, h_19]) (ih (i + 1) (by omega))

theorem k_laddersFrom {d : Nat} {sh : List Sh} {mi : MI} {mr : MR} {b : Nat} (hT : TB sh mr b) (hb : b + 11 < 76) {s : Rw} {n m p q : Nat} (hR : RT sh mi mr b s n m p q) (hI : Inv s n m p q) {x : Int32} : CP (d) mX9_laddersFrom [.ref b, .int x] sh mi mr 0 0 (PI (bitsB (fun l => decide (fot s l = x)) m) sh mi mr) := by
  have hn10 := hI.n10; have hm8 := hI.m8; have hp6 := hI.p6; have hq14 := hI.q14
  refine CP.of (L := [_, _, _, _]) (by decide) rfl rfl (Nat.le_of_ble_eq_true rfl) ?_
  refine r_iconst (μ := mX9_laddersFrom) (pc := 0) (v := 0) dX9_laddersFrom_0 ic_0 ?_
  refine s_istore_n (μ := mX9_laddersFrom) (pc := 1) (L2 := [_, _, _, _]) dX9_laddersFrom_1 rfl (Nat.le_of_ble_eq_true rfl) (Nat.le_of_ble_eq_true rfl) rfl rfl ?_
  refine r_iconst (μ := mX9_laddersFrom) (pc := 2) (v := 0) dX9_laddersFrom_2 ic_0 ?_
  refine s_istore_n (μ := mX9_laddersFrom) (pc := 3) (L2 := [_, _, _, _]) dX9_laddersFrom_3 rfl (Nat.le_of_ble_eq_true rfl) (Nat.le_of_ble_eq_true rfl) rfl rfl ?_
  exact lp_laddersFrom hT hb hR hI (PI_i rfl) m 0 (Nat.zero_add _)

theorem lp_kpeopleOn {d : Nat} {sh : List Sh} {mi : MI} {mr : MR} {Q : QT} {b : Nat} (hT : TB sh mr b) (hb : b + 11 < 76) {s : Rw} {n m p q : Nat} (hR : RT sh mi mr b s n m p q) (hI : Inv s n m p q) {x : Int32} (hq : Q (some (.int (nI (cntB (fun l => decide (spt s l = x)) p)))) sh mi mr) :
    ∀ (k i : Nat), i + k = p → WP (d) mX9_peopleOn 4 [.ref b, .int x, .int (nI (cntB (fun l => decide (spt s l = x)) i)), .int (nI i)] [] sh mi mr 0 0 Q := by
  have hn10 := hI.n10; have hm8 := hI.m8; have hp6 := hI.p6; have hq14 := hI.q14
  intro k
  induction k with
  | zero =>
    intro i hk
    obtain rfl : i = p := by omega
    refine r_iload_n (μ := mX9_peopleOn) (pc := 4) dX9_peopleOn_4 rfl rfl ?_
    refine r_aload_n (μ := mX9_peopleOn) (pc := 5) dX9_peopleOn_5 rfl rfl rfl ?_
    refine r_getI (μ := mX9_peopleOn) (pc := 6) dX9_peopleOn_6 fpX9_40 rfl (hT.1 0 _ rfl) (by decide) ?_
    rw [hR.ep]
    refine r_icmp_ge (μ := mX9_peopleOn) (pc := 9) (tgt := 31) dX9_peopleOn_9 (by decide) (fun h_9 => ?_) (fun h_9 => absurd (nI_le (Nat.le_refl _) (by omega)) h_9)
    refine r_iload_n (μ := mX9_peopleOn) (pc := 31) dX9_peopleOn_31 rfl rfl ?_
    exact r_iret (μ := mX9_peopleOn) (pc := 32) dX9_peopleOn_32 rfl rfl hq
  | succ k ih =>
    intro i hk
    have hi : i < p := by omega
    refine r_iload_n (μ := mX9_peopleOn) (pc := 4) dX9_peopleOn_4 rfl rfl ?_
    refine r_aload_n (μ := mX9_peopleOn) (pc := 5) dX9_peopleOn_5 rfl rfl rfl ?_
    refine r_getI (μ := mX9_peopleOn) (pc := 6) dX9_peopleOn_6 fpX9_40 rfl (hT.1 0 _ rfl) (by decide) ?_
    rw [hR.ep]
    refine r_icmp_ge (μ := mX9_peopleOn) (pc := 9) (tgt := 31) dX9_peopleOn_9 (by decide) (fun h_9 => absurd h_9 (nI_ge (by omega) (by omega))) (fun h_9 => ?_)
    refine r_aload_n (μ := mX9_peopleOn) (pc := 12) dX9_peopleOn_12 rfl rfl rfl ?_
    refine r_getR (μ := mX9_peopleOn) (pc := 13) dX9_peopleOn_13 fpX9_43 rfl (hT.1 0 _ rfl) (by decide) (hT.2.1 _ _ rfl) ?_
    refine r_iload_n (μ := mX9_peopleOn) (pc := 16) dX9_peopleOn_16 rfl rfl ?_
    refine r_iaload (μ := mX9_peopleOn) (pc := 17) (j := i) dX9_peopleOn_17 (hT.1 _ _ rfl) rfl (by omega) (by decide) ?_
    rw [hR.sp hi]
    refine r_iload_n (μ := mX9_peopleOn) (pc := 18) dX9_peopleOn_18 rfl rfl ?_
    refine r_icmp_ne (μ := mX9_peopleOn) (pc := 19) (tgt := 25) dX9_peopleOn_19 (by decide) (fun h_19 => ?_) (fun h_19 => ?_)
    · refine s_iinc (μ := mX9_peopleOn) (pc := 25) (c := 1) (L2 := [_, _, _, _]) dX9_peopleOn_25 rfl ic_1 (Nat.le_of_ble_eq_true rfl) rfl rfl ?_
      refine r_goto (μ := mX9_peopleOn) (pc := 28) (tgt := 4) dX9_peopleOn_28 (by decide) ?_
      exact WP.L (by simp [cntB, nI_succ, h_19]) (ih (i + 1) (by omega))
    · refine s_iinc (μ := mX9_peopleOn) (pc := 22) (c := 1) (L2 := [_, _, _, _]) dX9_peopleOn_22 rfl ic_1 (Nat.le_of_ble_eq_true rfl) rfl rfl ?_
      refine s_iinc (μ := mX9_peopleOn) (pc := 25) (c := 1) (L2 := [_, _, _, _]) dX9_peopleOn_25 rfl ic_1 (Nat.le_of_ble_eq_true rfl) rfl rfl ?_
      refine r_goto (μ := mX9_peopleOn) (pc := 28) (tgt := 4) dX9_peopleOn_28 (by decide) ?_
      exact WP.L (by simp [cntB, nI_succ, h_19]) (ih (i + 1) (by omega))

theorem k_peopleOn {d : Nat} {sh : List Sh} {mi : MI} {mr : MR} {b : Nat} (hT : TB sh mr b) (hb : b + 11 < 76) {s : Rw} {n m p q : Nat} (hR : RT sh mi mr b s n m p q) (hI : Inv s n m p q) {x : Int32} : CP (d) mX9_peopleOn [.ref b, .int x] sh mi mr 0 0 (PI (nI (cntB (fun l => decide (spt s l = x)) p)) sh mi mr) := by
  have hn10 := hI.n10; have hm8 := hI.m8; have hp6 := hI.p6; have hq14 := hI.q14
  refine CP.of (L := [_, _, _, _]) (by decide) rfl rfl (Nat.le_of_ble_eq_true rfl) ?_
  refine r_iconst (μ := mX9_peopleOn) (pc := 0) (v := 0) dX9_peopleOn_0 ic_0 ?_
  refine s_istore_n (μ := mX9_peopleOn) (pc := 1) (L2 := [_, _, _, _]) dX9_peopleOn_1 rfl (Nat.le_of_ble_eq_true rfl) (Nat.le_of_ble_eq_true rfl) rfl rfl ?_
  refine r_iconst (μ := mX9_peopleOn) (pc := 2) (v := 0) dX9_peopleOn_2 ic_0 ?_
  refine s_istore_n (μ := mX9_peopleOn) (pc := 3) (L2 := [_, _, _, _]) dX9_peopleOn_3 rfl (Nat.le_of_ble_eq_true rfl) (Nat.le_of_ble_eq_true rfl) rfl rfl ?_
  exact lp_kpeopleOn hT hb hR hI (PI_i rfl) p 0 (Nat.zero_add _)

theorem k_othersOn {d : Nat} {sh : List Sh} {mi : MI} {mr : MR} {b : Nat} (hT : TB sh mr b) (hb : b + 11 < 76) {s : Rw} {n m p q : Nat} (hR : RT sh mi mr b s n m p q) (hI : Inv s n m p q) {x : Int32} {i : Nat} (hi : i < p) : CP (d + 1) mX9_othersOn [.ref b, .int x, .int (nI i)] sh mi mr 0 0 (PI (b2i (decide ((if spt s i = x then 1 else 0) < cntB (fun l => decide (spt s l = x)) p))) sh mi mr) := by
  have hn10 := hI.n10; have hm8 := hI.m8; have hp6 := hI.p6; have hq14 := hI.q14
  have hcl := cntB_le (fun l => decide (spt s l = x)) p
  refine CP.of (L := [_, _, _]) (by decide) rfl rfl (Nat.le_of_ble_eq_true rfl) ?_
  refine r_aload_n (μ := mX9_othersOn) (pc := 0) dX9_othersOn_0 rfl rfl rfl ?_
  refine r_iload_n (μ := mX9_othersOn) (pc := 1) dX9_othersOn_1 rfl rfl ?_
  refine vP1 (μ := mX9_othersOn) (pc := 2) (c0 := 9) (q0 := (RX9, TX9, 20)) (μ2 := mX9_peopleOn) dX9_othersOn_2 (hT.1 0 _ rfl) rfl lkX9_137 imX9_peopleOn seX9_X9_peopleOn_X9_peopleOn mwX9_peopleOn (Nat.le_of_ble_eq_true rfl) (k_peopleOn hT hb hR hI) ?_
  refine r_aload_n (μ := mX9_othersOn) (pc := 5) dX9_othersOn_5 rfl rfl rfl ?_
  refine r_getR (μ := mX9_othersOn) (pc := 6) dX9_othersOn_6 fpX9_43 rfl (hT.1 0 _ rfl) (by decide) (hT.2.1 _ _ rfl) ?_
  refine r_iload_n (μ := mX9_othersOn) (pc := 9) dX9_othersOn_9 rfl rfl ?_
  refine r_iaload (μ := mX9_othersOn) (pc := 10) (j := i) dX9_othersOn_10 (hT.1 _ _ rfl) rfl (by omega) (by decide) ?_
  rw [hR.sp hi]
  refine r_iload_n (μ := mX9_othersOn) (pc := 11) dX9_othersOn_11 rfl rfl ?_
  refine r_icmp_ne (μ := mX9_othersOn) (pc := 12) (tgt := 19) dX9_othersOn_12 (by decide) (fun h_12 => ?_) (fun h_12 => ?_)
  · refine r_iconst (μ := mX9_othersOn) (pc := 19) (v := 0) dX9_othersOn_19 ic_0 ?_
    refine r_icmp_le (μ := mX9_othersOn) (pc := 20) (tgt := 27) dX9_othersOn_20 (by decide) (fun h_20 => ?_) (fun h_20 => ?_)
    · have h20 : cntB (fun l => decide (spt s l = x)) p ≤ (if spt s i = x then 1 else 0) := by first | (rw [if_neg h_12]; exact (nI_leI (b := 0) (by omega) (by decide)).mp h_20) | (rw [if_pos h_12]; exact (nI_leI (b := 1) (by omega) (by decide)).mp h_20)
      refine r_iconst (μ := mX9_othersOn) (pc := 27) (v := 0) dX9_othersOn_27 ic_0 ?_
      exact r_iret (μ := mX9_othersOn) (pc := 28) dX9_othersOn_28 rfl rfl (PI_i (by first | (rw [decide_eq_false (Nat.not_lt.mpr h20)]; rfl) | (rw [decide_eq_true (Nat.not_le.mp h20)]; rfl)))
    · have h20 : ¬ cntB (fun l => decide (spt s l = x)) p ≤ (if spt s i = x then 1 else 0) := by first | (rw [if_neg h_12]; exact mt (nI_leI (b := 0) (by omega) (by decide)).mpr h_20) | (rw [if_pos h_12]; exact mt (nI_leI (b := 1) (by omega) (by decide)).mpr h_20)
      refine r_iconst (μ := mX9_othersOn) (pc := 23) (v := 1) dX9_othersOn_23 ic_1 ?_
      refine r_goto (μ := mX9_othersOn) (pc := 24) (tgt := 28) dX9_othersOn_24 (by decide) ?_
      exact r_iret (μ := mX9_othersOn) (pc := 28) dX9_othersOn_28 rfl rfl (PI_i (by first | (rw [decide_eq_false (Nat.not_lt.mpr h20)]; rfl) | (rw [decide_eq_true (Nat.not_le.mp h20)]; rfl)))
  · refine r_iconst (μ := mX9_othersOn) (pc := 15) (v := 1) dX9_othersOn_15 ic_1 ?_
    refine r_goto (μ := mX9_othersOn) (pc := 16) (tgt := 20) dX9_othersOn_16 (by decide) ?_
    refine r_icmp_le (μ := mX9_othersOn) (pc := 20) (tgt := 27) dX9_othersOn_20 (by decide) (fun h_20 => ?_) (fun h_20 => ?_)
    · have h20 : cntB (fun l => decide (spt s l = x)) p ≤ (if spt s i = x then 1 else 0) := by first | (rw [if_neg h_12]; exact (nI_leI (b := 0) (by omega) (by decide)).mp h_20) | (rw [if_pos h_12]; exact (nI_leI (b := 1) (by omega) (by decide)).mp h_20)
      refine r_iconst (μ := mX9_othersOn) (pc := 27) (v := 0) dX9_othersOn_27 ic_0 ?_
      exact r_iret (μ := mX9_othersOn) (pc := 28) dX9_othersOn_28 rfl rfl (PI_i (by first | (rw [decide_eq_false (Nat.not_lt.mpr h20)]; rfl) | (rw [decide_eq_true (Nat.not_le.mp h20)]; rfl)))
    · have h20 : ¬ cntB (fun l => decide (spt s l = x)) p ≤ (if spt s i = x then 1 else 0) := by first | (rw [if_neg h_12]; exact mt (nI_leI (b := 0) (by omega) (by decide)).mpr h_20) | (rw [if_pos h_12]; exact mt (nI_leI (b := 1) (by omega) (by decide)).mpr h_20)
      refine r_iconst (μ := mX9_othersOn) (pc := 23) (v := 1) dX9_othersOn_23 ic_1 ?_
      refine r_goto (μ := mX9_othersOn) (pc := 24) (tgt := 28) dX9_othersOn_24 (by decide) ?_
      exact r_iret (μ := mX9_othersOn) (pc := 28) dX9_othersOn_28 rfl rfl (PI_i (by first | (rw [decide_eq_false (Nat.not_lt.mpr h20)]; rfl) | (rw [decide_eq_true (Nat.not_le.mp h20)]; rfl)))

theorem str_k {s : Rw} {q i l : Nat} {w : Int32} (hw : w = b2i (decide (lng s l ≤ stg s i))) : ((if lstT s q (nI 1) < 0 then w else givT s (lstT s q (nI 1)).toNatClampNeg (envM (stg s i) (lng s l) (s 4))) = 0) ↔ strgS s q i l = false := by
  unfold strgS
  show ((if lstT s q 1 < 0 then w else givT s (lstT s q 1).toNatClampNeg (envM (stg s i) (lng s l) (s 4))) = 0) ↔ _
  by_cases h : lstT s q 1 < 0
  · rw [if_pos h, if_pos h, hw]
    cases decide (lng s l ≤ stg s i) <;> simp [b2i]
  · rw [if_neg h, if_neg h]
    simp
theorem thr_k {s : Rw} {p q i l : Nat} {x : Bool} (hmv : ¬ mvd s l = 1) (ek : knd s l = nI (kN s l)) (hk : kN s l < 6) (hst : strgS s q i l = x) : b2i (ltsB (kN s l) x (decide ((if spt s i = fot s l then 1 else 0) < cntB (fun j => decide (spt s j = fot s l)) p))) = b2i (thrS s p q i l) := by
  unfold thrS
  rw [if_neg hmv, hst, ek]
  generalize kN s l = k at hk
  match k, hk with
  | 0, _ => rfl
  | 1, _ => rfl
  | 2, _ => rfl
  | 3, _ => rfl
  | 4, _ => rfl
  | 5, _ => rfl

theorem k_canMoveFromFoot {d : Nat} {sh : List Sh} {mi : MI} {mr : MR} {b : Nat} (hT : TB sh mr b) (hb : b + 11 < 76) {s : Rw} {n m p q : Nat} (hR : RT sh mi mr b s n m p q) (hI : Inv s n m p q) {i l : Nat} (hi : i < p) (hl : l < m) : CP (d + 4) mX9_canMoveFromFoot [.ref b, .int (nI i), .int (nI l)] sh mi mr 0 0 (PX sh mr (fun r mi2 => r = b2i (thrS s p q i l) ∧ SP (b + 11) mi mi2)) := by
  have hn10 := hI.n10; have hm8 := hI.m8; have hp6 := hI.p6; have hq14 := hI.q14
  have ek : knd s l = nI (kN s l) := hI.k hl
  refine CP.of (L := [_, _, _, _, _]) (by decide) rfl rfl (Nat.le_of_ble_eq_true rfl) ?_
  refine r_aload_n (μ := mX9_canMoveFromFoot) (pc := 0) dX9_canMoveFromFoot_0 rfl rfl rfl ?_
  refine r_getI (μ := mX9_canMoveFromFoot) (pc := 1) dX9_canMoveFromFoot_1 fpX9_37 rfl (hT.1 0 _ rfl) (by decide) ?_
  rw [hR.mv]
  refine r_iload_n (μ := mX9_canMoveFromFoot) (pc := 4) dX9_canMoveFromFoot_4 rfl rfl ?_
  refine snP2 (μ := mX9_canMoveFromFoot) (pc := 5) (μ2 := mX11_has) dX9_canMoveFromFoot_5 lkX9_143 stX11_has mwX11_has (Nat.le_of_ble_eq_true rfl) (k_has rfl (by omega)) ?_
  refine r_if_eq (μ := mX9_canMoveFromFoot) (pc := 8) (tgt := 13) dX9_canMoveFromFoot_8 (by decide) (fun h_8 => ?_) (fun h_8 => ?_)
  · have h_8 := b2i_0 h_8
    rw [bt_bits _ m (by omega) l (by omega), decide_eq_true hl, Bool.true_and] at h_8
    have hmv : ¬ mvd s l = 1 := of_decide_eq_false h_8
    refine r_aload_n (μ := mX9_canMoveFromFoot) (pc := 13) dX9_canMoveFromFoot_13 rfl rfl rfl ?_
    refine r_getR (μ := mX9_canMoveFromFoot) (pc := 14) dX9_canMoveFromFoot_14 fpX9_46 rfl (hT.1 0 _ rfl) (by decide) (hT.2.1 _ _ rfl) ?_
    refine r_iload_n (μ := mX9_canMoveFromFoot) (pc := 17) dX9_canMoveFromFoot_17 rfl rfl ?_
    refine r_iaload (μ := mX9_canMoveFromFoot) (pc := 18) (j := i) dX9_canMoveFromFoot_18 (hT.1 _ _ rfl) rfl (by omega) (by decide) ?_
    rw [hR.sg hi]
    refine r_aload_n (μ := mX9_canMoveFromFoot) (pc := 19) dX9_canMoveFromFoot_19 rfl rfl rfl ?_
    refine r_getR (μ := mX9_canMoveFromFoot) (pc := 20) dX9_canMoveFromFoot_20 fpX9_28 rfl (hT.1 0 _ rfl) (by decide) (hT.2.1 _ _ rfl) ?_
    refine r_iload_n (μ := mX9_canMoveFromFoot) (pc := 23) dX9_canMoveFromFoot_23 rfl rfl ?_
    refine r_iaload (μ := mX9_canMoveFromFoot) (pc := 24) (j := l) dX9_canMoveFromFoot_24 (hT.1 _ _ rfl) rfl (by omega) (by decide) ?_
    rw [hR.ln hl]
    refine r_icmp_lt (μ := mX9_canMoveFromFoot) (pc := 25) (tgt := 32) dX9_canMoveFromFoot_25 (by decide) (fun h_25 => ?_) (fun h_25 => ?_)
    · have hw : (0 : Int32) = b2i (decide (lng s l ≤ stg s i)) := by rw [decide_eq_false (Int32.not_le.mpr h_25)]; rfl
      refine r_iconst (μ := mX9_canMoveFromFoot) (pc := 32) (v := 0) dX9_canMoveFromFoot_32 ic_0 ?_
      refine s_istore_n (μ := mX9_canMoveFromFoot) (pc := 33) (L2 := [_, _, _, _, _]) dX9_canMoveFromFoot_33 rfl (Nat.le_of_ble_eq_true rfl) (Nat.le_of_ble_eq_true rfl) rfl rfl ?_
      refine r_aload_n (μ := mX9_canMoveFromFoot) (pc := 34) dX9_canMoveFromFoot_34 rfl rfl rfl ?_
      refine r_iconst (μ := mX9_canMoveFromFoot) (pc := 35) (v := 1) dX9_canMoveFromFoot_35 ic_1 ?_
      refine r_aload_n (μ := mX9_canMoveFromFoot) (pc := 36) dX9_canMoveFromFoot_36 rfl rfl rfl ?_
      refine r_getR (μ := mX9_canMoveFromFoot) (pc := 37) dX9_canMoveFromFoot_37 fpX9_46 rfl (hT.1 0 _ rfl) (by decide) (hT.2.1 _ _ rfl) ?_
      refine r_iload_n (μ := mX9_canMoveFromFoot) (pc := 40) dX9_canMoveFromFoot_40 rfl rfl ?_
      refine r_iaload (μ := mX9_canMoveFromFoot) (pc := 41) (j := i) dX9_canMoveFromFoot_41 (hT.1 _ _ rfl) rfl (by omega) (by decide) ?_
      rw [hR.sg hi]
      refine r_aload_n (μ := mX9_canMoveFromFoot) (pc := 42) dX9_canMoveFromFoot_42 rfl rfl rfl ?_
      refine r_getR (μ := mX9_canMoveFromFoot) (pc := 43) dX9_canMoveFromFoot_43 fpX9_28 rfl (hT.1 0 _ rfl) (by decide) (hT.2.1 _ _ rfl) ?_
      refine r_iload_n (μ := mX9_canMoveFromFoot) (pc := 46) dX9_canMoveFromFoot_46 rfl rfl ?_
      refine r_iaload (μ := mX9_canMoveFromFoot) (pc := 47) (j := l) dX9_canMoveFromFoot_47 (hT.1 _ _ rfl) rfl (by omega) (by decide) ?_
      rw [hR.ln hl]
      refine r_aload_n (μ := mX9_canMoveFromFoot) (pc := 48) dX9_canMoveFromFoot_48 rfl rfl rfl ?_
      refine r_getI (μ := mX9_canMoveFromFoot) (pc := 49) dX9_canMoveFromFoot_49 fpX9_49 rfl (hT.1 0 _ rfl) (by decide) ?_
      rw [hR.dy]
      refine r_iload_n (μ := mX9_canMoveFromFoot) (pc := 52) dX9_canMoveFromFoot_52 rfl rfl ?_
      refine vX5 (μ := mX9_canMoveFromFoot) (pc := 53) (c0 := 9) (q0 := (RX9, TX9, 20)) (μ2 := mX9_given) dX9_canMoveFromFoot_53 (hT.1 0 _ rfl) rfl lkX9_105 imX9_given seX9_X9_given_X9_given mwX9_given (Nat.le_of_ble_eq_true rfl) (k_given hT hb hR hI (kt := 1) (by decide) (nm := envM (stg s i) (lng s l) (s 4)) (by intro pl hpl; match pl, hpl with | 0, _ => rfl | 1, _ => rfl | 2, _ => rfl)) (fun r_53 mi_53 h_53 => ?_)
      obtain ⟨rfl, h53s⟩ := h_53
      have h53 := hR.ss hb h53s
      refine r_if_eq (μ := mX9_canMoveFromFoot) (pc := 56) (tgt := 63) dX9_canMoveFromFoot_56 (by decide) (fun h_56 => ?_) (fun h_56 => ?_)
      · have hst : strgS s q i l = false := (str_k hw).mp h_56
        refine r_iconst (μ := mX9_canMoveFromFoot) (pc := 63) (v := 0) dX9_canMoveFromFoot_63 ic_0 ?_
        refine s_istore (μ := mX9_canMoveFromFoot) (pc := 64) (L2 := [_, _, _, _, _]) dX9_canMoveFromFoot_64 (Nat.le_of_ble_eq_true rfl) (Nat.le_of_ble_eq_true rfl) rfl rfl ?_
        refine r_aload_n (μ := mX9_canMoveFromFoot) (pc := 66) dX9_canMoveFromFoot_66 rfl rfl rfl ?_
        refine r_getR (μ := mX9_canMoveFromFoot) (pc := 67) dX9_canMoveFromFoot_67 fpX9_73 rfl (hT.1 0 _ rfl) (by decide) hT.2.2.1 ?_
        refine r_aload_n (μ := mX9_canMoveFromFoot) (pc := 70) dX9_canMoveFromFoot_70 rfl rfl rfl ?_
        refine r_getR (μ := mX9_canMoveFromFoot) (pc := 71) dX9_canMoveFromFoot_71 fpX9_25 rfl (hT.1 0 _ rfl) (by decide) (hT.2.1 _ _ rfl) ?_
        refine r_iload_n (μ := mX9_canMoveFromFoot) (pc := 74) dX9_canMoveFromFoot_74 rfl rfl ?_
        refine r_iaload (μ := mX9_canMoveFromFoot) (pc := 75) (j := l) dX9_canMoveFromFoot_75 (hT.1 _ _ rfl) rfl (by omega) (by decide) ?_
        rw [h53.kd hl, ek]
        refine r_aaload (μ := mX9_canMoveFromFoot) (pc := 76) (t := 0) dX9_canMoveFromFoot_76 (by decide) hT.2.2.2.1 rfl (hI.k6 hl) (by decide) (hT.2.2.2.2.1 _ (hI.k6 hl)) ?_
        refine r_iload (μ := mX9_canMoveFromFoot) (pc := 77) dX9_canMoveFromFoot_77 rfl ?_
        refine r_aload_n (μ := mX9_canMoveFromFoot) (pc := 79) dX9_canMoveFromFoot_79 rfl rfl rfl ?_
        refine r_aload_n (μ := mX9_canMoveFromFoot) (pc := 80) dX9_canMoveFromFoot_80 rfl rfl rfl ?_
        refine r_getR (μ := mX9_canMoveFromFoot) (pc := 81) dX9_canMoveFromFoot_81 fpX9_31 rfl (hT.1 0 _ rfl) (by decide) (hT.2.1 _ _ rfl) ?_
        refine r_iload_n (μ := mX9_canMoveFromFoot) (pc := 84) dX9_canMoveFromFoot_84 rfl rfl ?_
        refine r_iaload (μ := mX9_canMoveFromFoot) (pc := 85) (j := l) dX9_canMoveFromFoot_85 (hT.1 _ _ rfl) rfl (by omega) (by decide) ?_
        rw [h53.ft hl]
        refine r_iload_n (μ := mX9_canMoveFromFoot) (pc := 86) dX9_canMoveFromFoot_86 rfl rfl ?_
        refine vP2 (μ := mX9_canMoveFromFoot) (pc := 87) (c0 := 9) (q0 := (RX9, TX9, 20)) (μ2 := mX9_othersOn) dX9_canMoveFromFoot_87 (hT.1 0 _ rfl) rfl lkX9_146 imX9_othersOn seX9_X9_othersOn_X9_othersOn mwX9_othersOn (Nat.le_of_ble_eq_true rfl) (k_othersOn hT hb h53 hI hi) ?_
        first
        | refine kv_letsMove (x := false) (μ := mX9_canMoveFromFoot) (pc := 90) dX9_canMoveFromFoot_90 lkX9_149 hT.2.2.2 (hI.k6 hl) (Nat.le_of_ble_eq_true rfl) ?_
        | refine kv_letsMove (x := true) (μ := mX9_canMoveFromFoot) (pc := 90) dX9_canMoveFromFoot_90 lkX9_149 hT.2.2.2 (hI.k6 hl) (Nat.le_of_ble_eq_true rfl) ?_
        exact r_iret (μ := mX9_canMoveFromFoot) (pc := 93) dX9_canMoveFromFoot_93 rfl (nar_b2i _) (PX_i ⟨thr_k hmv ek (hI.k6 hl) hst, h53s⟩)
      · have hst : strgS s q i l = true := by cases hz : strgS s q i l; (· exact absurd ((str_k hw).mpr hz) h_56); (· rfl)
        refine r_iconst (μ := mX9_canMoveFromFoot) (pc := 59) (v := 1) dX9_canMoveFromFoot_59 ic_1 ?_
        refine r_goto (μ := mX9_canMoveFromFoot) (pc := 60) (tgt := 64) dX9_canMoveFromFoot_60 (by decide) ?_
        refine s_istore (μ := mX9_canMoveFromFoot) (pc := 64) (L2 := [_, _, _, _, _]) dX9_canMoveFromFoot_64 (Nat.le_of_ble_eq_true rfl) (Nat.le_of_ble_eq_true rfl) rfl rfl ?_
        refine r_aload_n (μ := mX9_canMoveFromFoot) (pc := 66) dX9_canMoveFromFoot_66 rfl rfl rfl ?_
        refine r_getR (μ := mX9_canMoveFromFoot) (pc := 67) dX9_canMoveFromFoot_67 fpX9_73 rfl (hT.1 0 _ rfl) (by decide) hT.2.2.1 ?_
        refine r_aload_n (μ := mX9_canMoveFromFoot) (pc := 70) dX9_canMoveFromFoot_70 rfl rfl rfl ?_
        refine r_getR (μ := mX9_canMoveFromFoot) (pc := 71) dX9_canMoveFromFoot_71 fpX9_25 rfl (hT.1 0 _ rfl) (by decide) (hT.2.1 _ _ rfl) ?_
        refine r_iload_n (μ := mX9_canMoveFromFoot) (pc := 74) dX9_canMoveFromFoot_74 rfl rfl ?_
        refine r_iaload (μ := mX9_canMoveFromFoot) (pc := 75) (j := l) dX9_canMoveFromFoot_75 (hT.1 _ _ rfl) rfl (by omega) (by decide) ?_
        rw [h53.kd hl, ek]
        refine r_aaload (μ := mX9_canMoveFromFoot) (pc := 76) (t := 0) dX9_canMoveFromFoot_76 (by decide) hT.2.2.2.1 rfl (hI.k6 hl) (by decide) (hT.2.2.2.2.1 _ (hI.k6 hl)) ?_
        refine r_iload (μ := mX9_canMoveFromFoot) (pc := 77) dX9_canMoveFromFoot_77 rfl ?_
        refine r_aload_n (μ := mX9_canMoveFromFoot) (pc := 79) dX9_canMoveFromFoot_79 rfl rfl rfl ?_
        refine r_aload_n (μ := mX9_canMoveFromFoot) (pc := 80) dX9_canMoveFromFoot_80 rfl rfl rfl ?_
        refine r_getR (μ := mX9_canMoveFromFoot) (pc := 81) dX9_canMoveFromFoot_81 fpX9_31 rfl (hT.1 0 _ rfl) (by decide) (hT.2.1 _ _ rfl) ?_
        refine r_iload_n (μ := mX9_canMoveFromFoot) (pc := 84) dX9_canMoveFromFoot_84 rfl rfl ?_
        refine r_iaload (μ := mX9_canMoveFromFoot) (pc := 85) (j := l) dX9_canMoveFromFoot_85 (hT.1 _ _ rfl) rfl (by omega) (by decide) ?_
        rw [h53.ft hl]
        refine r_iload_n (μ := mX9_canMoveFromFoot) (pc := 86) dX9_canMoveFromFoot_86 rfl rfl ?_
        refine vP2 (μ := mX9_canMoveFromFoot) (pc := 87) (c0 := 9) (q0 := (RX9, TX9, 20)) (μ2 := mX9_othersOn) dX9_canMoveFromFoot_87 (hT.1 0 _ rfl) rfl lkX9_146 imX9_othersOn seX9_X9_othersOn_X9_othersOn mwX9_othersOn (Nat.le_of_ble_eq_true rfl) (k_othersOn hT hb h53 hI hi) ?_
        first
        | refine kv_letsMove (x := false) (μ := mX9_canMoveFromFoot) (pc := 90) dX9_canMoveFromFoot_90 lkX9_149 hT.2.2.2 (hI.k6 hl) (Nat.le_of_ble_eq_true rfl) ?_
        | refine kv_letsMove (x := true) (μ := mX9_canMoveFromFoot) (pc := 90) dX9_canMoveFromFoot_90 lkX9_149 hT.2.2.2 (hI.k6 hl) (Nat.le_of_ble_eq_true rfl) ?_
        exact r_iret (μ := mX9_canMoveFromFoot) (pc := 93) dX9_canMoveFromFoot_93 rfl (nar_b2i _) (PX_i ⟨thr_k hmv ek (hI.k6 hl) hst, h53s⟩)
    · have hw : (1 : Int32) = b2i (decide (lng s l ≤ stg s i)) := by rw [decide_eq_true (Int32.not_lt.mp h_25)]; rfl
      refine r_iconst (μ := mX9_canMoveFromFoot) (pc := 28) (v := 1) dX9_canMoveFromFoot_28 ic_1 ?_
      refine r_goto (μ := mX9_canMoveFromFoot) (pc := 29) (tgt := 33) dX9_canMoveFromFoot_29 (by decide) ?_
      refine s_istore_n (μ := mX9_canMoveFromFoot) (pc := 33) (L2 := [_, _, _, _, _]) dX9_canMoveFromFoot_33 rfl (Nat.le_of_ble_eq_true rfl) (Nat.le_of_ble_eq_true rfl) rfl rfl ?_
      refine r_aload_n (μ := mX9_canMoveFromFoot) (pc := 34) dX9_canMoveFromFoot_34 rfl rfl rfl ?_
      refine r_iconst (μ := mX9_canMoveFromFoot) (pc := 35) (v := 1) dX9_canMoveFromFoot_35 ic_1 ?_
      refine r_aload_n (μ := mX9_canMoveFromFoot) (pc := 36) dX9_canMoveFromFoot_36 rfl rfl rfl ?_
      refine r_getR (μ := mX9_canMoveFromFoot) (pc := 37) dX9_canMoveFromFoot_37 fpX9_46 rfl (hT.1 0 _ rfl) (by decide) (hT.2.1 _ _ rfl) ?_
      refine r_iload_n (μ := mX9_canMoveFromFoot) (pc := 40) dX9_canMoveFromFoot_40 rfl rfl ?_
      refine r_iaload (μ := mX9_canMoveFromFoot) (pc := 41) (j := i) dX9_canMoveFromFoot_41 (hT.1 _ _ rfl) rfl (by omega) (by decide) ?_
      rw [hR.sg hi]
      refine r_aload_n (μ := mX9_canMoveFromFoot) (pc := 42) dX9_canMoveFromFoot_42 rfl rfl rfl ?_
      refine r_getR (μ := mX9_canMoveFromFoot) (pc := 43) dX9_canMoveFromFoot_43 fpX9_28 rfl (hT.1 0 _ rfl) (by decide) (hT.2.1 _ _ rfl) ?_
      refine r_iload_n (μ := mX9_canMoveFromFoot) (pc := 46) dX9_canMoveFromFoot_46 rfl rfl ?_
      refine r_iaload (μ := mX9_canMoveFromFoot) (pc := 47) (j := l) dX9_canMoveFromFoot_47 (hT.1 _ _ rfl) rfl (by omega) (by decide) ?_
      rw [hR.ln hl]
      refine r_aload_n (μ := mX9_canMoveFromFoot) (pc := 48) dX9_canMoveFromFoot_48 rfl rfl rfl ?_
      refine r_getI (μ := mX9_canMoveFromFoot) (pc := 49) dX9_canMoveFromFoot_49 fpX9_49 rfl (hT.1 0 _ rfl) (by decide) ?_
      rw [hR.dy]
      refine r_iload_n (μ := mX9_canMoveFromFoot) (pc := 52) dX9_canMoveFromFoot_52 rfl rfl ?_
      refine vX5 (μ := mX9_canMoveFromFoot) (pc := 53) (c0 := 9) (q0 := (RX9, TX9, 20)) (μ2 := mX9_given) dX9_canMoveFromFoot_53 (hT.1 0 _ rfl) rfl lkX9_105 imX9_given seX9_X9_given_X9_given mwX9_given (Nat.le_of_ble_eq_true rfl) (k_given hT hb hR hI (kt := 1) (by decide) (nm := envM (stg s i) (lng s l) (s 4)) (by intro pl hpl; match pl, hpl with | 0, _ => rfl | 1, _ => rfl | 2, _ => rfl)) (fun r_53 mi_53 h_53 => ?_)
      obtain ⟨rfl, h53s⟩ := h_53
      have h53 := hR.ss hb h53s
      refine r_if_eq (μ := mX9_canMoveFromFoot) (pc := 56) (tgt := 63) dX9_canMoveFromFoot_56 (by decide) (fun h_56 => ?_) (fun h_56 => ?_)
      · have hst : strgS s q i l = false := (str_k hw).mp h_56
        refine r_iconst (μ := mX9_canMoveFromFoot) (pc := 63) (v := 0) dX9_canMoveFromFoot_63 ic_0 ?_
        refine s_istore (μ := mX9_canMoveFromFoot) (pc := 64) (L2 := [_, _, _, _, _]) dX9_canMoveFromFoot_64 (Nat.le_of_ble_eq_true rfl) (Nat.le_of_ble_eq_true rfl) rfl rfl ?_
        refine r_aload_n (μ := mX9_canMoveFromFoot) (pc := 66) dX9_canMoveFromFoot_66 rfl rfl rfl ?_
        refine r_getR (μ := mX9_canMoveFromFoot) (pc := 67) dX9_canMoveFromFoot_67 fpX9_73 rfl (hT.1 0 _ rfl) (by decide) hT.2.2.1 ?_
        refine r_aload_n (μ := mX9_canMoveFromFoot) (pc := 70) dX9_canMoveFromFoot_70 rfl rfl rfl ?_
        refine r_getR (μ := mX9_canMoveFromFoot) (pc := 71) dX9_canMoveFromFoot_71 fpX9_25 rfl (hT.1 0 _ rfl) (by decide) (hT.2.1 _ _ rfl) ?_
        refine r_iload_n (μ := mX9_canMoveFromFoot) (pc := 74) dX9_canMoveFromFoot_74 rfl rfl ?_
        refine r_iaload (μ := mX9_canMoveFromFoot) (pc := 75) (j := l) dX9_canMoveFromFoot_75 (hT.1 _ _ rfl) rfl (by omega) (by decide) ?_
        rw [h53.kd hl, ek]
        refine r_aaload (μ := mX9_canMoveFromFoot) (pc := 76) (t := 0) dX9_canMoveFromFoot_76 (by decide) hT.2.2.2.1 rfl (hI.k6 hl) (by decide) (hT.2.2.2.2.1 _ (hI.k6 hl)) ?_
        refine r_iload (μ := mX9_canMoveFromFoot) (pc := 77) dX9_canMoveFromFoot_77 rfl ?_
        refine r_aload_n (μ := mX9_canMoveFromFoot) (pc := 79) dX9_canMoveFromFoot_79 rfl rfl rfl ?_
        refine r_aload_n (μ := mX9_canMoveFromFoot) (pc := 80) dX9_canMoveFromFoot_80 rfl rfl rfl ?_
        refine r_getR (μ := mX9_canMoveFromFoot) (pc := 81) dX9_canMoveFromFoot_81 fpX9_31 rfl (hT.1 0 _ rfl) (by decide) (hT.2.1 _ _ rfl) ?_
        refine r_iload_n (μ := mX9_canMoveFromFoot) (pc := 84) dX9_canMoveFromFoot_84 rfl rfl ?_
        refine r_iaload (μ := mX9_canMoveFromFoot) (pc := 85) (j := l) dX9_canMoveFromFoot_85 (hT.1 _ _ rfl) rfl (by omega) (by decide) ?_
        rw [h53.ft hl]
        refine r_iload_n (μ := mX9_canMoveFromFoot) (pc := 86) dX9_canMoveFromFoot_86 rfl rfl ?_
        refine vP2 (μ := mX9_canMoveFromFoot) (pc := 87) (c0 := 9) (q0 := (RX9, TX9, 20)) (μ2 := mX9_othersOn) dX9_canMoveFromFoot_87 (hT.1 0 _ rfl) rfl lkX9_146 imX9_othersOn seX9_X9_othersOn_X9_othersOn mwX9_othersOn (Nat.le_of_ble_eq_true rfl) (k_othersOn hT hb h53 hI hi) ?_
        first
        | refine kv_letsMove (x := false) (μ := mX9_canMoveFromFoot) (pc := 90) dX9_canMoveFromFoot_90 lkX9_149 hT.2.2.2 (hI.k6 hl) (Nat.le_of_ble_eq_true rfl) ?_
        | refine kv_letsMove (x := true) (μ := mX9_canMoveFromFoot) (pc := 90) dX9_canMoveFromFoot_90 lkX9_149 hT.2.2.2 (hI.k6 hl) (Nat.le_of_ble_eq_true rfl) ?_
        exact r_iret (μ := mX9_canMoveFromFoot) (pc := 93) dX9_canMoveFromFoot_93 rfl (nar_b2i _) (PX_i ⟨thr_k hmv ek (hI.k6 hl) hst, h53s⟩)
      · have hst : strgS s q i l = true := by cases hz : strgS s q i l; (· exact absurd ((str_k hw).mpr hz) h_56); (· rfl)
        refine r_iconst (μ := mX9_canMoveFromFoot) (pc := 59) (v := 1) dX9_canMoveFromFoot_59 ic_1 ?_
        refine r_goto (μ := mX9_canMoveFromFoot) (pc := 60) (tgt := 64) dX9_canMoveFromFoot_60 (by decide) ?_
        refine s_istore (μ := mX9_canMoveFromFoot) (pc := 64) (L2 := [_, _, _, _, _]) dX9_canMoveFromFoot_64 (Nat.le_of_ble_eq_true rfl) (Nat.le_of_ble_eq_true rfl) rfl rfl ?_
        refine r_aload_n (μ := mX9_canMoveFromFoot) (pc := 66) dX9_canMoveFromFoot_66 rfl rfl rfl ?_
        refine r_getR (μ := mX9_canMoveFromFoot) (pc := 67) dX9_canMoveFromFoot_67 fpX9_73 rfl (hT.1 0 _ rfl) (by decide) hT.2.2.1 ?_
        refine r_aload_n (μ := mX9_canMoveFromFoot) (pc := 70) dX9_canMoveFromFoot_70 rfl rfl rfl ?_
        refine r_getR (μ := mX9_canMoveFromFoot) (pc := 71) dX9_canMoveFromFoot_71 fpX9_25 rfl (hT.1 0 _ rfl) (by decide) (hT.2.1 _ _ rfl) ?_
        refine r_iload_n (μ := mX9_canMoveFromFoot) (pc := 74) dX9_canMoveFromFoot_74 rfl rfl ?_
        refine r_iaload (μ := mX9_canMoveFromFoot) (pc := 75) (j := l) dX9_canMoveFromFoot_75 (hT.1 _ _ rfl) rfl (by omega) (by decide) ?_
        rw [h53.kd hl, ek]
        refine r_aaload (μ := mX9_canMoveFromFoot) (pc := 76) (t := 0) dX9_canMoveFromFoot_76 (by decide) hT.2.2.2.1 rfl (hI.k6 hl) (by decide) (hT.2.2.2.2.1 _ (hI.k6 hl)) ?_
        refine r_iload (μ := mX9_canMoveFromFoot) (pc := 77) dX9_canMoveFromFoot_77 rfl ?_
        refine r_aload_n (μ := mX9_canMoveFromFoot) (pc := 79) dX9_canMoveFromFoot_79 rfl rfl rfl ?_
        refine r_aload_n (μ := mX9_canMoveFromFoot) (pc := 80) dX9_canMoveFromFoot_80 rfl rfl rfl ?_
        refine r_getR (μ := mX9_canMoveFromFoot) (pc := 81) dX9_canMoveFromFoot_81 fpX9_31 rfl (hT.1 0 _ rfl) (by decide) (hT.2.1 _ _ rfl) ?_
        refine r_iload_n (μ := mX9_canMoveFromFoot) (pc := 84) dX9_canMoveFromFoot_84 rfl rfl ?_
        refine r_iaload (μ := mX9_canMoveFromFoot) (pc := 85) (j := l) dX9_canMoveFromFoot_85 (hT.1 _ _ rfl) rfl (by omega) (by decide) ?_
        rw [h53.ft hl]
        refine r_iload_n (μ := mX9_canMoveFromFoot) (pc := 86) dX9_canMoveFromFoot_86 rfl rfl ?_
        refine vP2 (μ := mX9_canMoveFromFoot) (pc := 87) (c0 := 9) (q0 := (RX9, TX9, 20)) (μ2 := mX9_othersOn) dX9_canMoveFromFoot_87 (hT.1 0 _ rfl) rfl lkX9_146 imX9_othersOn seX9_X9_othersOn_X9_othersOn mwX9_othersOn (Nat.le_of_ble_eq_true rfl) (k_othersOn hT hb h53 hI hi) ?_
        first
        | refine kv_letsMove (x := false) (μ := mX9_canMoveFromFoot) (pc := 90) dX9_canMoveFromFoot_90 lkX9_149 hT.2.2.2 (hI.k6 hl) (Nat.le_of_ble_eq_true rfl) ?_
        | refine kv_letsMove (x := true) (μ := mX9_canMoveFromFoot) (pc := 90) dX9_canMoveFromFoot_90 lkX9_149 hT.2.2.2 (hI.k6 hl) (Nat.le_of_ble_eq_true rfl) ?_
        exact r_iret (μ := mX9_canMoveFromFoot) (pc := 93) dX9_canMoveFromFoot_93 rfl (nar_b2i _) (PX_i ⟨thr_k hmv ek (hI.k6 hl) hst, h53s⟩)
  · have h_8 := b2i_1 h_8
    rw [bt_bits _ m (by omega) l (by omega), decide_eq_true hl, Bool.true_and] at h_8
    have hmv : mvd s l = 1 := of_decide_eq_true h_8
    refine r_iconst (μ := mX9_canMoveFromFoot) (pc := 11) (v := 0) dX9_canMoveFromFoot_11 ic_0 ?_
    exact r_iret (μ := mX9_canMoveFromFoot) (pc := 12) dX9_canMoveFromFoot_12 rfl rfl (PX_i ⟨by unfold thrS; rw [if_pos hmv]; rfl, SP.rf _ _⟩)

theorem k_canMove {d : Nat} {sh : List Sh} {mi : MI} {mr : MR} {b : Nat} (hT : TB sh mr b) (hb : b + 11 < 76) {s : Rw} {n m p q : Nat} (hR : RT sh mi mr b s n m p q) (hI : Inv s n m p q) {i l : Nat} (hi : i < p) (hl : l < m) : CP (d + 5) mX9_canMove [.ref b, .int (nI i), .int (nI l)] sh mi mr 0 0 (PX sh mr (fun r mi2 => r = b2i (maySt s p q i l) ∧ SP (b + 11) mi mi2)) := by
  have hn10 := hI.n10; have hm8 := hI.m8; have hp6 := hI.p6; have hq14 := hI.q14
  refine CP.of (L := [_, _, _]) (by decide) rfl rfl (Nat.le_of_ble_eq_true rfl) ?_
  refine r_aload_n (μ := mX9_canMove) (pc := 0) dX9_canMove_0 rfl rfl rfl ?_
  refine r_getR (μ := mX9_canMove) (pc := 1) dX9_canMove_1 fpX9_43 rfl (hT.1 0 _ rfl) (by decide) (hT.2.1 _ _ rfl) ?_
  refine r_iload_n (μ := mX9_canMove) (pc := 4) dX9_canMove_4 rfl rfl ?_
  refine r_iaload (μ := mX9_canMove) (pc := 5) (j := i) dX9_canMove_5 (hT.1 _ _ rfl) rfl (by omega) (by decide) ?_
  rw [hR.sp hi]
  refine r_aload_n (μ := mX9_canMove) (pc := 6) dX9_canMove_6 rfl rfl rfl ?_
  refine r_getR (μ := mX9_canMove) (pc := 7) dX9_canMove_7 fpX9_31 rfl (hT.1 0 _ rfl) (by decide) (hT.2.1 _ _ rfl) ?_
  refine r_iload_n (μ := mX9_canMove) (pc := 10) dX9_canMove_10 rfl rfl ?_
  refine r_iaload (μ := mX9_canMove) (pc := 11) (j := l) dX9_canMove_11 (hT.1 _ _ rfl) rfl (by omega) (by decide) ?_
  rw [hR.ft hl]
  refine r_icmp_ne (μ := mX9_canMove) (pc := 12) (tgt := 28) dX9_canMove_12 (by decide) (fun h_12 => ?_) (fun h_12 => ?_)
  · refine r_iconst (μ := mX9_canMove) (pc := 28) (v := 0) dX9_canMove_28 ic_0 ?_
    exact r_iret (μ := mX9_canMove) (pc := 29) dX9_canMove_29 rfl rfl (PX_i ⟨by unfold maySt; first | (rw [decide_eq_false h_12]; rfl) | (rw [decide_eq_true h_12, h_21]; rfl), by first | exact SP.rf _ _ | exact h18⟩)
  · refine r_aload_n (μ := mX9_canMove) (pc := 15) dX9_canMove_15 rfl rfl rfl ?_
    refine r_iload_n (μ := mX9_canMove) (pc := 16) dX9_canMove_16 rfl rfl ?_
    refine r_iload_n (μ := mX9_canMove) (pc := 17) dX9_canMove_17 rfl rfl ?_
    refine vX2 (μ := mX9_canMove) (pc := 18) (c0 := 9) (q0 := (RX9, TX9, 20)) (μ2 := mX9_canMoveFromFoot) dX9_canMove_18 (hT.1 0 _ rfl) rfl lkX9_140 imX9_canMoveFromFoot seX9_X9_canMoveFromFoot_X9_canMoveFromFoot mwX9_canMoveFromFoot (Nat.le_of_ble_eq_true rfl) (k_canMoveFromFoot hT hb hR hI hi hl) (fun r_18 mi_18 h_18 => ?_)
    obtain ⟨rfl, h18⟩ := h_18
    refine r_if_eq (μ := mX9_canMove) (pc := 21) (tgt := 28) dX9_canMove_21 (by decide) (fun h_21 => ?_) (fun h_21 => ?_)
    · have h_21 := b2i_0 h_21
      refine r_iconst (μ := mX9_canMove) (pc := 28) (v := 0) dX9_canMove_28 ic_0 ?_
      exact r_iret (μ := mX9_canMove) (pc := 29) dX9_canMove_29 rfl rfl (PX_i ⟨by unfold maySt; first | (rw [decide_eq_false h_12]; rfl) | (rw [decide_eq_true h_12, h_21]; rfl), by first | exact SP.rf _ _ | exact h18⟩)
    · have h_21 := b2i_1 h_21
      refine r_iconst (μ := mX9_canMove) (pc := 24) (v := 1) dX9_canMove_24 ic_1 ?_
      refine r_goto (μ := mX9_canMove) (pc := 25) (tgt := 29) dX9_canMove_25 (by decide) ?_
      exact r_iret (μ := mX9_canMove) (pc := 29) dX9_canMove_29 rfl rfl (PX_i ⟨by unfold maySt; first | (rw [decide_eq_false h_12]; rfl) | (rw [decide_eq_true h_12, h_21]; rfl), by first | exact SP.rf _ _ | exact h18⟩)

theorem lp_movable {d : Nat} {sh : List Sh} {mi : MI} {mr : MR} {Q : QT} {b : Nat} (hT : TB sh mr b) (hb : b + 11 < 76) {s : Rw} {n m p q : Nat} (hR : RT sh mi mr b s n m p q) (hI : Inv s n m p q) {pe : Nat} (hpe : pe < p) (hq : ∀ mi2, SP (b + 11) mi mi2 → Q (some (.int (bitsB (thrS s p q pe) m))) sh mi2 mr) :
    ∀ (k i : Nat), i + k = m → ∀ mi2, SP (b + 11) mi mi2 → WP (d + 5) mX9_movableFromFoot 4 [.ref b, .int (nI pe), .int (bitsB (thrS s p q pe) i), .int (nI i)] [] sh mi2 mr 0 0 Q := by
  have hn10 := hI.n10; have hm8 := hI.m8; have hp6 := hI.p6; have hq14 := hI.q14
  intro k
  induction k with
  | zero =>
    intro i hk mi2 hS
    obtain rfl : i = m := by omega
    refine r_iload_n (μ := mX9_movableFromFoot) (pc := 4) dX9_movableFromFoot_4 rfl rfl ?_
    refine r_aload_n (μ := mX9_movableFromFoot) (pc := 5) dX9_movableFromFoot_5 rfl rfl rfl ?_
    refine r_getI (μ := mX9_movableFromFoot) (pc := 6) dX9_movableFromFoot_6 fpX9_22 rfl (hT.1 0 _ rfl) (by decide) ?_
    rw [(hR.ss hb hS).em]
    refine r_icmp_ge (μ := mX9_movableFromFoot) (pc := 9) (tgt := 33) dX9_movableFromFoot_9 (by decide) (fun h_9 => ?_) (fun h_9 => absurd (nI_le (Nat.le_refl _) (by omega)) h_9)
    refine r_iload_n (μ := mX9_movableFromFoot) (pc := 33) dX9_movableFromFoot_33 rfl rfl ?_
    exact r_iret (μ := mX9_movableFromFoot) (pc := 34) dX9_movableFromFoot_34 rfl rfl (hq mi2 hS)
  | succ k ih =>
    intro i hk mi2 hS
    have hi : i < m := by omega
    refine r_iload_n (μ := mX9_movableFromFoot) (pc := 4) dX9_movableFromFoot_4 rfl rfl ?_
    refine r_aload_n (μ := mX9_movableFromFoot) (pc := 5) dX9_movableFromFoot_5 rfl rfl rfl ?_
    refine r_getI (μ := mX9_movableFromFoot) (pc := 6) dX9_movableFromFoot_6 fpX9_22 rfl (hT.1 0 _ rfl) (by decide) ?_
    rw [(hR.ss hb hS).em]
    refine r_icmp_ge (μ := mX9_movableFromFoot) (pc := 9) (tgt := 33) dX9_movableFromFoot_9 (by decide) (fun h_9 => absurd h_9 (nI_ge (by omega) (by omega))) (fun h_9 => ?_)
    refine r_aload_n (μ := mX9_movableFromFoot) (pc := 12) dX9_movableFromFoot_12 rfl rfl rfl ?_
    refine r_iload_n (μ := mX9_movableFromFoot) (pc := 13) dX9_movableFromFoot_13 rfl rfl ?_
    refine r_iload_n (μ := mX9_movableFromFoot) (pc := 14) dX9_movableFromFoot_14 rfl rfl ?_
    refine vX2 (μ := mX9_movableFromFoot) (pc := 15) (c0 := 9) (q0 := (RX9, TX9, 20)) (μ2 := mX9_canMoveFromFoot) dX9_movableFromFoot_15 (hT.1 0 _ rfl) rfl lkX9_140 imX9_canMoveFromFoot seX9_X9_canMoveFromFoot_X9_canMoveFromFoot mwX9_canMoveFromFoot (Nat.le_of_ble_eq_true rfl) (k_canMoveFromFoot hT hb (hR.ss hb hS) hI hpe hi) (fun r_15 mi_15 h_15 => ?_)
    obtain ⟨rfl, h15⟩ := h_15
    refine r_if_eq (μ := mX9_movableFromFoot) (pc := 18) (tgt := 27) dX9_movableFromFoot_18 (by decide) (fun h_18 => ?_) (fun h_18 => ?_)
    · have h_18 := b2i_0 h_18
      refine s_iinc (μ := mX9_movableFromFoot) (pc := 27) (c := 1) (L2 := [_, _, _, _]) dX9_movableFromFoot_27 rfl ic_1 (Nat.le_of_ble_eq_true rfl) rfl rfl ?_
      refine r_goto (μ := mX9_movableFromFoot) (pc := 30) (tgt := 4) dX9_movableFromFoot_30 (by decide) ?_
      exact WP.L (by simp [bitsB, nI_succ, h_18]) (ih (i + 1) (by omega) _ (hS.tr h15))
    · have h_18 := b2i_1 h_18
      refine r_iload_n (μ := mX9_movableFromFoot) (pc := 21) dX9_movableFromFoot_21 rfl rfl ?_
      refine r_iconst (μ := mX9_movableFromFoot) (pc := 22) (v := 1) dX9_movableFromFoot_22 ic_1 ?_
      refine r_iload_n (μ := mX9_movableFromFoot) (pc := 23) dX9_movableFromFoot_23 rfl rfl ?_
      refine r_ishl (μ := mX9_movableFromFoot) (pc := 24) dX9_movableFromFoot_24 ?_
      refine r_ior (μ := mX9_movableFromFoot) (pc := 25) dX9_movableFromFoot_25 ?_
      refine s_istore_n (μ := mX9_movableFromFoot) (pc := 26) (L2 := [_, _, _, _]) dX9_movableFromFoot_26 rfl (Nat.le_of_ble_eq_true rfl) (Nat.le_of_ble_eq_true rfl) rfl rfl ?_
      refine s_iinc (μ := mX9_movableFromFoot) (pc := 27) (c := 1) (L2 := [_, _, _, _]) dX9_movableFromFoot_27 rfl ic_1 (Nat.le_of_ble_eq_true rfl) rfl rfl ?_
      refine r_goto (μ := mX9_movableFromFoot) (pc := 30) (tgt := 4) dX9_movableFromFoot_30 (by decide) ?_
      exact WP.L (by simp [bitsB, nI_succ, h_18]) (ih (i + 1) (by omega) _ (hS.tr h15))

theorem k_movableFromFoot {d : Nat} {sh : List Sh} {mi : MI} {mr : MR} {b : Nat} (hT : TB sh mr b) (hb : b + 11 < 76) {s : Rw} {n m p q : Nat} (hR : RT sh mi mr b s n m p q) (hI : Inv s n m p q) {pe : Nat} (hpe : pe < p) : CP (d + 5) mX9_movableFromFoot [.ref b, .int (nI pe)] sh mi mr 0 0 (PX sh mr (fun r mi2 => r = bitsB (thrS s p q pe) m ∧ SP (b + 11) mi mi2)) := by
  have hn10 := hI.n10; have hm8 := hI.m8; have hp6 := hI.p6; have hq14 := hI.q14
  refine CP.of (L := [_, _, _, _]) (by decide) rfl rfl (Nat.le_of_ble_eq_true rfl) ?_
  refine r_iconst (μ := mX9_movableFromFoot) (pc := 0) (v := 0) dX9_movableFromFoot_0 ic_0 ?_
  refine s_istore_n (μ := mX9_movableFromFoot) (pc := 1) (L2 := [_, _, _, _]) dX9_movableFromFoot_1 rfl (Nat.le_of_ble_eq_true rfl) (Nat.le_of_ble_eq_true rfl) rfl rfl ?_
  refine r_iconst (μ := mX9_movableFromFoot) (pc := 2) (v := 0) dX9_movableFromFoot_2 ic_0 ?_
  refine s_istore_n (μ := mX9_movableFromFoot) (pc := 3) (L2 := [_, _, _, _]) dX9_movableFromFoot_3 rfl (Nat.le_of_ble_eq_true rfl) (Nat.le_of_ble_eq_true rfl) rfl rfl ?_
  exact lp_movable hT hb hR hI hpe (fun mi2 h => PX_i ⟨rfl, h⟩) m 0 (Nat.zero_add _) mi (SP.rf _ _)

