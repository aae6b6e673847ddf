theorem lp_ffX {d : Nat} {mi : MI} {mr : MR} {Q : QT} (hM : MB mr) {s : Rw} (hs : mi 1 = s) {n m p q : Nat} (hI : Inv s n m p q) {a : Nat} (ha : a < n) (hq : ∀ mi2, SF mi mi2 → (∀ j, j < 10 → mi2 12 j = nI (farS s q m a j)) → Q none shM mi2 mr) {D : Nat → Nat} {mi2 : MI} (hS : SF mi mi2) (hD : ∀ j, j < 10 → mi2 12 j = nI (D j)) (h : FrI (stdS s q) (fN s) (tN s) (wM s) m a 100 D D m 0) {x3 x4 x5 x6 : Value} : WP (d + 5) mX12_findFar 33 [.ref 0, .int (nI a), .int 0, x3, x4, x5, x6] [] shM mi2 mr 0 0 Q := by
  have hn10 := hI.n10
  have hx : ∀ j, D j = farS s q m a j := fun j => dS_eq ha (fun l hl => hI.fn hl) (fun l hl => hI.tn hl) (fun l hl => (wM_ok hI hl).2) (by decide) hn10 (h.2.1 j) (fun e M _ hw => fix_b h.1 (fun l hl hE => (h.2.2.elim (fun z => z.2.2 l hl hE) (fun z => absurd z.1 (by decide)))) hw)
  refine r_iload_n (μ := mX12_findFar) (pc := 33) dX12_findFar_33 rfl rfl ?_
  refine r_if_eq (μ := mX12_findFar) (pc := 34) (tgt := 174) dX12_findFar_34 (by decide) (fun h_34 => ?_) (fun h_34 => absurd rfl h_34)
  exact r_vret (μ := mX12_findFar) (pc := 174) dX12_findFar_174 rfl (hq _ hS (fun j hj => by rw [hD j hj, hx j]))

theorem lp_ffB {d : Nat} {mi : MI} {mr : MR} {Q : QT} (hM : MB mr) {s : Rw} (hs : mi 1 = s) {n m p q : Nat} (hI : Inv s n m p q) {a : Nat} (ha : a < n) {D0 D : Nat → Nat} {i : Nat} {fl : Int32} (hi : i < m) (hE : stdS s q i = true) {mi2 : MI} (hS : SF mi mi2) (hD : ∀ j, j < 10 → mi2 12 j = nI (D j)) (h : FrI (stdS s q) (fN s) (tN s) (wM s) m a 100 D0 D i fl) (h1 : D (tN s i) ≤ D (fN s i) + (100 * wM s i + 1)) (k41 : ∀ D2 fl2 mi3, SF mi mi3 → (∀ j, j < 10 → mi3 12 j = nI (D2 j)) → FrI (stdS s q) (fN s) (tN s) (wM s) m a 100 D0 D2 (i + 1) fl2 → ∀ x4 x5 x6 : Value, catL x4 = true → catL x5 = true → catL x6 = true → WP (d + 5) mX12_findFar 41 [.ref 0, .int (nI a), .int fl2, .int (nI (i + 1)), x4, x5, x6] [] shM mi3 mr 0 0 Q) : WP (d + 5) mX12_findFar 126 [.ref 0, .int (nI a), .int fl, .int (nI i), .int (nI (100 * wM s i + 1)), .int (nI (fN s i)), .int (nI (tN s i))] [] shM mi2 mr 0 0 Q := by
  have hn10 := hI.n10
  have hf := hI.fn hi
  have ht := hI.tn hi
  have hw := (wM_ok hI hi).2
  have hdf := (h.2.1 (fN s i)).le
  have hdt := (h.2.1 (tN s i)).le
  unfold FARn at hdf hdt
  refine r_aload_n (μ := mX12_findFar) (pc := 126) dX12_findFar_126 rfl rfl rfl ?_
  refine r_getR (μ := mX12_findFar) (pc := 127) dX12_findFar_127 fpX12_43 rfl rfl (by decide) (hM _ _ rfl) ?_
  refine r_iload (μ := mX12_findFar) (pc := 130) dX12_findFar_130 rfl ?_
  refine r_iaload (μ := mX12_findFar) (pc := 132) (j := (tN s i)) dX12_findFar_132 rfl rfl (by omega) (by decide) ?_
  rw [hD _ (by omega)]
  refine r_iload (μ := mX12_findFar) (pc := 133) dX12_findFar_133 rfl ?_
  refine r_iadd (μ := mX12_findFar) (pc := 135) dX12_findFar_135 ?_
  rw [nI_add]
  refine r_aload_n (μ := mX12_findFar) (pc := 136) dX12_findFar_136 rfl rfl rfl ?_
  refine r_getR (μ := mX12_findFar) (pc := 137) dX12_findFar_137 fpX12_43 rfl rfl (by decide) (hM _ _ rfl) ?_
  refine r_iload (μ := mX12_findFar) (pc := 140) dX12_findFar_140 rfl ?_
  refine r_iaload (μ := mX12_findFar) (pc := 142) (j := (fN s i)) dX12_findFar_142 rfl rfl (by omega) (by decide) ?_
  rw [hD _ (by omega)]
  refine r_icmp_ge (μ := mX12_findFar) (pc := 143) (tgt := 165) dX12_findFar_143 (by decide) (fun h_143 => ?_) (fun h_143 => ?_)
  · have h_143 := (nI_leI (by omega) (by omega)).mp h_143
    refine s_iinc (μ := mX12_findFar) (pc := 165) (c := 1) (L2 := [_, _, _, _, _, _, _]) dX12_findFar_165 rfl ic_1 (Nat.le_of_ble_eq_true rfl) rfl rfl ?_
    refine r_goto (μ := mX12_findFar) (pc := 168) (tgt := 41) dX12_findFar_168 (by decide) ?_
    first
    | exact WP.L (by rw [show nI (i + 1) = nI i + 1 from by rw [nI_succ]]) (k41 _ _ _ hS.up (far_up hD) (h.up hi hE (Or.inr ⟨rfl, rfl⟩) (by omega) (by omega) (i + 1)) _ _ _ rfl rfl rfl)
    | exact WP.L (by rw [show nI (i + 1) = nI i + 1 from by rw [nI_succ]]) (k41 _ _ _ hS hD (h.no (fun _ => ⟨h1, h_143⟩)) _ _ _ rfl rfl rfl)
  · have h_143 : ¬ D (fN s i) ≤ D (tN s i) + (100 * wM s i + 1) := fun z => h_143 ((nI_leI (by omega) (by omega)).mpr z)
    refine r_aload_n (μ := mX12_findFar) (pc := 146) dX12_findFar_146 rfl rfl rfl ?_
    refine r_getR (μ := mX12_findFar) (pc := 147) dX12_findFar_147 fpX12_43 rfl rfl (by decide) (hM _ _ rfl) ?_
    refine r_iload (μ := mX12_findFar) (pc := 150) dX12_findFar_150 rfl ?_
    refine r_aload_n (μ := mX12_findFar) (pc := 152) dX12_findFar_152 rfl rfl rfl ?_
    refine r_getR (μ := mX12_findFar) (pc := 153) dX12_findFar_153 fpX12_43 rfl rfl (by decide) (hM _ _ rfl) ?_
    refine r_iload (μ := mX12_findFar) (pc := 156) dX12_findFar_156 rfl ?_
    refine r_iaload (μ := mX12_findFar) (pc := 158) (j := (tN s i)) dX12_findFar_158 rfl rfl (by omega) (by decide) ?_
    rw [hD _ (by omega)]
    refine r_iload (μ := mX12_findFar) (pc := 159) dX12_findFar_159 rfl ?_
    refine r_iadd (μ := mX12_findFar) (pc := 161) dX12_findFar_161 ?_
    rw [nI_add]
    refine r_iastore (μ := mX12_findFar) (pc := 162) (j := (fN s i)) dX12_findFar_162 rfl rfl (by omega) (by decide) ?_
    refine r_iconst (μ := mX12_findFar) (pc := 163) (v := 1) dX12_findFar_163 ic_1 ?_
    refine s_istore_n (μ := mX12_findFar) (pc := 164) (L2 := [_, _, _, _, _, _, _]) dX12_findFar_164 rfl (Nat.le_of_ble_eq_true rfl) (Nat.le_of_ble_eq_true rfl) rfl rfl ?_
    refine s_iinc (μ := mX12_findFar) (pc := 165) (c := 1) (L2 := [_, _, _, _, _, _, _]) dX12_findFar_165 rfl ic_1 (Nat.le_of_ble_eq_true rfl) rfl rfl ?_
    refine r_goto (μ := mX12_findFar) (pc := 168) (tgt := 41) dX12_findFar_168 (by decide) ?_
    first
    | exact WP.L (by rw [show nI (i + 1) = nI i + 1 from by rw [nI_succ]]) (k41 _ _ _ hS.up (far_up hD) (h.up hi hE (Or.inr ⟨rfl, rfl⟩) (by omega) (by omega) (i + 1)) _ _ _ rfl rfl rfl)
    | exact WP.L (by rw [show nI (i + 1) = nI i + 1 from by rw [nI_succ]]) (k41 _ _ _ hS hD (h.no (fun _ => ⟨h1, h_143⟩)) _ _ _ rfl rfl rfl)

theorem lp_ffA {d : Nat} {mi : MI} {mr : MR} {Q : QT} (hM : MB mr) {s : Rw} (hs : mi 1 = s) {n m p q : Nat} (hI : Inv s n m p q) {a : Nat} (ha : a < n) {D0 D : Nat → Nat} {i : Nat} {fl : Int32} (hi : i < m) {mi2 : MI} (hS : SF mi mi2) (hD : ∀ j, j < 10 → mi2 12 j = nI (D j)) (h : FrI (stdS s q) (fN s) (tN s) (wM s) m a 100 D0 D i fl) {x4 x5 x6 : Value} (hx4 : catL x4 = true) (hx5 : catL x5 = true) (hx6 : catL x6 = true) (k41 : ∀ D2 fl2 mi3, SF mi mi3 → (∀ j, j < 10 → mi3 12 j = nI (D2 j)) → FrI (stdS s q) (fN s) (tN s) (wM s) m a 100 D0 D2 (i + 1) fl2 → ∀ x4 x5 x6 : Value, catL x4 = true → catL x5 = true → catL x6 = true → WP (d + 5) mX12_findFar 41 [.ref 0, .int (nI a), .int fl2, .int (nI (i + 1)), x4, x5, x6] [] shM mi3 mr 0 0 Q) : WP (d + 5) mX12_findFar 41 [.ref 0, .int (nI a), .int fl, .int (nI i), x4, x5, x6] [] shM mi2 mr 0 0 Q := by
  have hn10 := hI.n10
  have hm8 := hI.m8
  have hf := hI.fn hi
  have ht := hI.tn hi
  have hw := (wM_ok hI hi).2
  have hdf := (h.2.1 (fN s i)).le
  have hdt := (h.2.1 (tN s i)).le
  unfold FARn at hdf hdt
  refine r_iload_n (μ := mX12_findFar) (pc := 41) dX12_findFar_41 rfl rfl ?_
  refine r_aload_n (μ := mX12_findFar) (pc := 42) dX12_findFar_42 rfl rfl rfl ?_
  refine r_getR (μ := mX12_findFar) (pc := 43) dX12_findFar_43 fpX12_7 rfl rfl (by decide) (hM _ _ rfl) ?_
  refine r_iconst (μ := mX12_findFar) (pc := 46) (v := 1) dX12_findFar_46 ic_1 ?_
  refine r_iaload (μ := mX12_findFar) (pc := 47) (j := 1) dX12_findFar_47 rfl rfl (by decide) (by decide) ?_
  rw [hS.r1, hs, hI.em]
  refine r_icmp_ge (μ := mX12_findFar) (pc := 48) (tgt := 171) dX12_findFar_48 (by decide) (fun h_48 => absurd h_48 (nI_ge hi (by omega))) (fun h_48 => ?_)
  refine r_aload_n (μ := mX12_findFar) (pc := 51) dX12_findFar_51 rfl rfl rfl ?_
  refine r_iload_n (μ := mX12_findFar) (pc := 52) dX12_findFar_52 rfl rfl ?_
  refine vX1 (μ := mX12_findFar) (pc := 53) (c0 := 12) (q0 := (RX12, TX12, 34)) (μ2 := mX12_stands) dX12_findFar_53 rfl rfl lkX12_143 imX12_stands seX12_X12_stands_X12_stands mwX12_stands (Nat.le_of_ble_eq_true rfl) (c_stands hM (hS.r1.trans hs) hI hi) (fun r_53 mi_53 h_53 => ?_)
  obtain ⟨rfl, h53⟩ := h_53
  have hS2 := hS.tr h53.sf
  have hD2 := far_sb h53 hD
  refine r_if_eq (μ := mX12_findFar) (pc := 56) (tgt := 165) dX12_findFar_56 (by decide) (fun h_56 => ?_) (fun h_56 => ?_)
  · have h_56 := b2i_0 h_56
    have k2 := k41 D fl _ hS2 hD2 (h.no (fun z => absurd (h_56.symm.trans z) (by decide)))
    refine s_iinc (μ := mX12_findFar) (pc := 165) (c := 1) (L2 := [_, _, _, _, _, _, _]) dX12_findFar_165 rfl ic_1 (Nat.le_of_ble_eq_true rfl) (by simp only [List.all_cons, List.all_nil, catL_i, catL_r, hx4, hx5, hx6, Bool.and_self]) rfl ?_
    refine r_goto (μ := mX12_findFar) (pc := 168) (tgt := 41) dX12_findFar_168 (by decide) ?_
    exact WP.L (by rw [show nI (i + 1) = nI i + 1 from by rw [nI_succ]]) (k2 _ _ _ hx4 hx5 hx6)
  · have h_56 := b2i_1 h_56
    refine r_bipush (μ := mX12_findFar) (pc := 59) (v := 100) dX12_findFar_59 bp_100 ?_
    refine r_aload_n (μ := mX12_findFar) (pc := 61) dX12_findFar_61 rfl rfl rfl ?_
    refine r_iload_n (μ := mX12_findFar) (pc := 62) dX12_findFar_62 rfl rfl ?_
    refine vP1 (μ := mX12_findFar) (pc := 63) (c0 := 12) (q0 := (RX12, TX12, 34)) (μ2 := mX12_minutes) dX12_findFar_63 rfl rfl lkX12_140 imX12_minutes seX12_X12_minutes_X12_minutes mwX12_minutes (Nat.le_of_ble_eq_true rfl) (e_minutes hM (hS2.r1.trans hs) hI hi) ?_
    rw [(wM_ok hI hi).1]
    refine r_imul (μ := mX12_findFar) (pc := 66) dX12_findFar_66 ?_
    refine r_iconst (μ := mX12_findFar) (pc := 67) (v := 1) dX12_findFar_67 ic_1 ?_
    refine r_iadd (μ := mX12_findFar) (pc := 68) dX12_findFar_68 ?_
    rw [show (100 : Int32) * nI (wM s i) + 1 = nI (100 * wM s i + 1) from by rw [← nI_add, ← pk_mul]; rfl]
    refine s_istore (μ := mX12_findFar) (pc := 69) (L2 := [_, _, _, _, _, _, _]) dX12_findFar_69 (Nat.le_of_ble_eq_true rfl) (Nat.le_of_ble_eq_true rfl) (by simp only [List.all_cons, List.all_nil, catL_i, catL_r, hx4, hx5, hx6, Bool.and_self]) rfl ?_
    refine r_aload_n (μ := mX12_findFar) (pc := 71) dX12_findFar_71 rfl rfl rfl ?_
    refine r_iload_n (μ := mX12_findFar) (pc := 72) dX12_findFar_72 rfl rfl ?_
    refine r_iconst (μ := mX12_findFar) (pc := 73) (v := 2) dX12_findFar_73 ic_2 ?_
    refine vP2 (μ := mX12_findFar) (pc := 74) (c0 := 12) (q0 := (RX12, TX12, 34)) (μ2 := mX12_of) dX12_findFar_74 rfl rfl lkX12_90 imX12_of seX12_X12_of_X12_of mwX12_of (Nat.le_of_ble_eq_true rfl) (e_of hM (hS2.r1.trans hs) (by omega) (by decide)) ?_
    rw [hI.f hi]
    refine s_istore (μ := mX12_findFar) (pc := 77) (L2 := [_, _, _, _, _, _, _]) dX12_findFar_77 (Nat.le_of_ble_eq_true rfl) (Nat.le_of_ble_eq_true rfl) (by simp only [List.all_cons, List.all_nil, catL_i, catL_r, hx4, hx5, hx6, Bool.and_self]) rfl ?_
    refine r_aload_n (μ := mX12_findFar) (pc := 79) dX12_findFar_79 rfl rfl rfl ?_
    refine r_iload_n (μ := mX12_findFar) (pc := 80) dX12_findFar_80 rfl rfl ?_
    refine r_iconst (μ := mX12_findFar) (pc := 81) (v := 3) dX12_findFar_81 ic_3 ?_
    refine vP2 (μ := mX12_findFar) (pc := 82) (c0 := 12) (q0 := (RX12, TX12, 34)) (μ2 := mX12_of) dX12_findFar_82 rfl rfl lkX12_90 imX12_of seX12_X12_of_X12_of mwX12_of (Nat.le_of_ble_eq_true rfl) (e_of hM (hS2.r1.trans hs) (by omega) (by decide)) ?_
    rw [hI.t hi]
    refine s_istore (μ := mX12_findFar) (pc := 85) (L2 := [_, _, _, _, _, _, _]) dX12_findFar_85 (Nat.le_of_ble_eq_true rfl) (Nat.le_of_ble_eq_true rfl) (by simp only [List.all_cons, List.all_nil, catL_i, catL_r, hx4, hx5, hx6, Bool.and_self]) rfl ?_
    refine r_aload_n (μ := mX12_findFar) (pc := 87) dX12_findFar_87 rfl rfl rfl ?_
    refine r_getR (μ := mX12_findFar) (pc := 88) dX12_findFar_88 fpX12_43 rfl rfl (by decide) (hM _ _ rfl) ?_
    refine r_iload (μ := mX12_findFar) (pc := 91) dX12_findFar_91 rfl ?_
    refine r_iaload (μ := mX12_findFar) (pc := 93) (j := (fN s i)) dX12_findFar_93 rfl rfl (by omega) (by decide) ?_
    rw [hD2 _ (by omega)]
    refine r_iload (μ := mX12_findFar) (pc := 94) dX12_findFar_94 rfl ?_
    refine r_iadd (μ := mX12_findFar) (pc := 96) dX12_findFar_96 ?_
    rw [nI_add]
    refine r_aload_n (μ := mX12_findFar) (pc := 97) dX12_findFar_97 rfl rfl rfl ?_
    refine r_getR (μ := mX12_findFar) (pc := 98) dX12_findFar_98 fpX12_43 rfl rfl (by decide) (hM _ _ rfl) ?_
    refine r_iload (μ := mX12_findFar) (pc := 101) dX12_findFar_101 rfl ?_
    refine r_iaload (μ := mX12_findFar) (pc := 103) (j := (tN s i)) dX12_findFar_103 rfl rfl (by omega) (by decide) ?_
    rw [hD2 _ (by omega)]
    refine r_icmp_ge (μ := mX12_findFar) (pc := 104) (tgt := 126) dX12_findFar_104 (by decide) (fun h_104 => ?_) (fun h_104 => ?_)
    · have h_104 := (nI_leI (by omega) (by omega)).mp h_104
      exact lp_ffB hM hs hI ha hi h_56 hS2 hD2 h h_104 k41
    · have h_104 : ¬ D (tN s i) ≤ D (fN s i) + (100 * wM s i + 1) := fun z => h_104 ((nI_leI (by omega) (by omega)).mpr z)
      refine r_aload_n (μ := mX12_findFar) (pc := 107) dX12_findFar_107 rfl rfl rfl ?_
      refine r_getR (μ := mX12_findFar) (pc := 108) dX12_findFar_108 fpX12_43 rfl rfl (by decide) (hM _ _ rfl) ?_
      refine r_iload (μ := mX12_findFar) (pc := 111) dX12_findFar_111 rfl ?_
      refine r_aload_n (μ := mX12_findFar) (pc := 113) dX12_findFar_113 rfl rfl rfl ?_
      refine r_getR (μ := mX12_findFar) (pc := 114) dX12_findFar_114 fpX12_43 rfl rfl (by decide) (hM _ _ rfl) ?_
      refine r_iload (μ := mX12_findFar) (pc := 117) dX12_findFar_117 rfl ?_
      refine r_iaload (μ := mX12_findFar) (pc := 119) (j := (fN s i)) dX12_findFar_119 rfl rfl (by omega) (by decide) ?_
      rw [hD2 _ (by omega)]
      refine r_iload (μ := mX12_findFar) (pc := 120) dX12_findFar_120 rfl ?_
      refine r_iadd (μ := mX12_findFar) (pc := 122) dX12_findFar_122 ?_
      rw [nI_add]
      refine r_iastore (μ := mX12_findFar) (pc := 123) (j := (tN s i)) dX12_findFar_123 rfl rfl (by omega) (by decide) ?_
      refine r_iconst (μ := mX12_findFar) (pc := 124) (v := 1) dX12_findFar_124 ic_1 ?_
      refine s_istore_n (μ := mX12_findFar) (pc := 125) (L2 := [_, _, _, _, _, _, _]) dX12_findFar_125 rfl (Nat.le_of_ble_eq_true rfl) (Nat.le_of_ble_eq_true rfl) (by simp only [List.all_cons, List.all_nil, catL_i, catL_r, hx4, hx5, hx6, Bool.and_self]) rfl ?_
      have hne : fN s i ≠ tN s i := fun z => h_104 (by rw [z]; omega)
      exact lp_ffB hM hs hI ha hi h_56 hS2.up (far_up hD2) (h.up hi h_56 (Or.inl ⟨rfl, rfl⟩) (by omega) (by omega) i) (by rw [updN_s, updN_n hne]; omega) k41

theorem lp_ffI {d : Nat} {mi : MI} {mr : MR} {Q : QT} (hM : MB mr) {s : Rw} (hs : mi 1 = s) {n m p q : Nat} (hI : Inv s n m p q) {a : Nat} (ha : a < n) {D0 : Nat → Nat} (k33 : ∀ D2 fl2 mi3, SF mi mi3 → (∀ j, j < 10 → mi3 12 j = nI (D2 j)) → FrI (stdS s q) (fN s) (tN s) (wM s) m a 100 D0 D2 m fl2 → ∀ x4 x5 x6 : Value, catL x4 = true → catL x5 = true → catL x6 = true → WP (d + 5) mX12_findFar 33 [.ref 0, .int (nI a), .int fl2, .int (nI m), x4, x5, x6] [] shM mi3 mr 0 0 Q) :
    ∀ (k i : Nat), i + k = m → ∀ D fl mi2, SF mi mi2 → (∀ j, j < 10 → mi2 12 j = nI (D j)) → FrI (stdS s q) (fN s) (tN s) (wM s) m a 100 D0 D i fl → ∀ x4 x5 x6 : Value, catL x4 = true → catL x5 = true → catL x6 = true → WP (d + 5) mX12_findFar 41 [.ref 0, .int (nI a), .int fl, .int (nI i), x4, x5, x6] [] shM mi2 mr 0 0 Q := by
  have hm8 := hI.m8
  intro k
  induction k with
  | zero =>
    intro i hk D fl mi2 hS hD h x4 x5 x6 hx4 hx5 hx6
    obtain rfl : i = m := by omega
    refine r_iload_n (μ := mX12_findFar) (pc := 41) dX12_findFar_41 rfl rfl ?_
    refine r_aload_n (μ := mX12_findFar) (pc := 42) dX12_findFar_42 rfl rfl rfl ?_
    refine r_getR (μ := mX12_findFar) (pc := 43) dX12_findFar_43 fpX12_7 rfl rfl (by decide) (hM _ _ rfl) ?_
    refine r_iconst (μ := mX12_findFar) (pc := 46) (v := 1) dX12_findFar_46 ic_1 ?_
    refine r_iaload (μ := mX12_findFar) (pc := 47) (j := 1) dX12_findFar_47 rfl rfl (by decide) (by decide) ?_
    rw [hS.r1, hs, hI.em]
    refine r_icmp_ge (μ := mX12_findFar) (pc := 48) (tgt := 171) dX12_findFar_48 (by decide) (fun h_48 => ?_) (fun h_48 => absurd (nI_le (Nat.le_refl _) (by omega)) h_48)
    refine r_goto (μ := mX12_findFar) (pc := 171) (tgt := 33) dX12_findFar_171 (by decide) ?_
    exact k33 _ _ _ hS hD h _ _ _ hx4 hx5 hx6
  | succ k ih =>
    intro i hk D fl mi2 hS hD h x4 x5 x6 hx4 hx5 hx6
    exact lp_ffA hM hs hI ha (by omega) hS hD h hx4 hx5 hx6 (ih (i + 1) (by omega))

theorem lp_ffO {d : Nat} {mi : MI} {mr : MR} {Q : QT} (hM : MB mr) {s : Rw} (hs : mi 1 = s) {n m p q : Nat} (hI : Inv s n m p q) {a : Nat} (ha : a < n) (hq : ∀ mi2, SF mi mi2 → (∀ j, j < 10 → mi2 12 j = nI (farS s q m a j)) → Q none shM mi2 mr) : ∀ (k : Nat) (D : Nat → Nat), smD D 10 = k → D a = 0 → (∀ b, SnD (stdS s q) (fN s) (tN s) (wM s) m a 100 D b) → ∀ mi2, SF mi mi2 → (∀ j, j < 10 → mi2 12 j = nI (D j)) → ∀ x3 x4 x5 x6 : Value, catL x3 = true → catL x4 = true → catL x5 = true → catL x6 = true → WP (d + 5) mX12_findFar 33 [.ref 0, .int (nI a), .int 1, x3, x4, x5, x6] [] shM mi2 mr 0 0 Q := by
  intro k
  induction k using Nat.strongRecOn with
  | ind k ih =>
    intro D hk h0 hs0 mi2 hS hD x3 x4 x5 x6 hx3 hx4 hx5 hx6
    refine r_iload_n (μ := mX12_findFar) (pc := 33) dX12_findFar_33 rfl rfl ?_
    refine r_if_eq (μ := mX12_findFar) (pc := 34) (tgt := 174) dX12_findFar_34 (by decide) (fun h_34 => absurd h_34 (by decide)) (fun h_34 => ?_)
    refine r_iconst (μ := mX12_findFar) (pc := 37) (v := 0) dX12_findFar_37 ic_0 ?_
    refine s_istore_n (μ := mX12_findFar) (pc := 38) (L2 := [_, _, _, _, _, _, _]) dX12_findFar_38 rfl (Nat.le_of_ble_eq_true rfl) (Nat.le_of_ble_eq_true rfl) (by simp only [List.all_cons, List.all_nil, catL_i, catL_r, hx3, hx4, hx5, hx6, Bool.and_self]) rfl ?_
    refine r_iconst (μ := mX12_findFar) (pc := 39) (v := 0) dX12_findFar_39 ic_0 ?_
    refine s_istore_n (μ := mX12_findFar) (pc := 40) (L2 := [_, _, _, _, _, _, _]) dX12_findFar_40 rfl (Nat.le_of_ble_eq_true rfl) (Nat.le_of_ble_eq_true rfl) (by simp only [List.all_cons, List.all_nil, catL_i, catL_r, hx3, hx4, hx5, hx6, Bool.and_self]) rfl ?_
    refine lp_ffI (D0 := D) hM hs hI ha (fun D2 fl2 mi3 hS3 hD3 h3 y4 y5 y6 hy4 hy5 hy6 => ?_) m 0 (Nat.zero_add _) D 0 mi2 hS hD ⟨h0, hs0, Or.inl ⟨rfl, rfl, fun l hl => absurd hl (Nat.not_lt_zero _)⟩⟩ x4 x5 x6 hx4 hx5 hx6
    rcases h3.2.2 with ⟨rfl, rfl, h4⟩ | ⟨rfl, h4⟩
    · exact lp_ffX hM hs hI ha hq hS3 hD3 h3
    · exact ih _ (by omega) D2 rfl h3.1 h3.2.1 mi3 hS3 hD3 _ y4 y5 y6 rfl hy4 hy5 hy6

theorem lp_ffS {d : Nat} {mi : MI} {mr : MR} {Q : QT} (hM : MB mr) {s : Rw} (hs : mi 1 = s) {n m p q : Nat} (hI : Inv s n m p q) {a : Nat} (ha : a < n) (hq : ∀ mi2, SF mi mi2 → (∀ j, j < 10 → mi2 12 j = nI (farS s q m a j)) → Q none shM mi2 mr) : ∀ (k i : Nat), i + k = 10 → ∀ mi2, SF mi mi2 → (∀ j, j < i → mi2 12 j = nI ((fun j => if j = a then 0 else FARn) j)) → WP (d + 5) mX12_findFar 2 [.ref 0, .int (nI a), .int (nI i), hole, hole, hole, hole] [] shM mi2 mr 0 0 Q := by
  have hn10 := hI.n10
  intro k
  induction k with
  | zero =>
    intro i hk mi2 hS hD
    obtain rfl : i = 10 := by omega
    refine r_iload_n (μ := mX12_findFar) (pc := 2) dX12_findFar_2 rfl rfl ?_
    refine r_bipush (μ := mX12_findFar) (pc := 3) (v := 10) dX12_findFar_3 bp_10 ?_
    refine r_icmp_ge (μ := mX12_findFar) (pc := 5) (tgt := 31) dX12_findFar_5 (by decide) (fun h_5 => ?_) (fun h_5 => absurd (nI_leC (a := 10) rfl (by omega) (by omega)) h_5)
    refine r_iconst (μ := mX12_findFar) (pc := 31) (v := 1) dX12_findFar_31 ic_1 ?_
    refine s_istore_n (μ := mX12_findFar) (pc := 32) (L2 := [_, _, _, _, _, _, _]) dX12_findFar_32 rfl (Nat.le_of_ble_eq_true rfl) (Nat.le_of_ble_eq_true rfl) rfl rfl ?_
    exact lp_ffO hM hs hI ha hq _ (fun j => if j = a then 0 else FARn) rfl (if_pos rfl) (dK_s 0) mi2 hS hD _ _ _ _ rfl rfl rfl rfl
  | succ k ih =>
    intro i hk mi2 hS hD
    refine r_iload_n (μ := mX12_findFar) (pc := 2) dX12_findFar_2 rfl rfl ?_
    refine r_bipush (μ := mX12_findFar) (pc := 3) (v := 10) dX12_findFar_3 bp_10 ?_
    refine r_icmp_ge (μ := mX12_findFar) (pc := 5) (tgt := 31) dX12_findFar_5 (by decide) (fun h_5 => absurd h_5 (nI_geC (b := 10) rfl (by omega) (by decide))) (fun h_5 => ?_)
    refine r_aload_n (μ := mX12_findFar) (pc := 8) dX12_findFar_8 rfl rfl rfl ?_
    refine r_getR (μ := mX12_findFar) (pc := 9) dX12_findFar_9 fpX12_43 rfl rfl (by decide) (hM _ _ rfl) ?_
    refine r_iload_n (μ := mX12_findFar) (pc := 12) dX12_findFar_12 rfl rfl ?_
    refine r_iload_n (μ := mX12_findFar) (pc := 13) dX12_findFar_13 rfl rfl ?_
    refine r_iload_n (μ := mX12_findFar) (pc := 14) dX12_findFar_14 rfl rfl ?_
    refine r_icmp_ne (μ := mX12_findFar) (pc := 15) (tgt := 22) dX12_findFar_15 (by decide) (fun h_15 => ?_) (fun h_15 => ?_)
    · have h_15 : i ≠ a := fun z => h_15 (by rw [z])
      refine r_ldc (μ := mX12_findFar) (pc := 22) dX12_findFar_22 ctX12_176 ?_
      refine r_iastore (μ := mX12_findFar) (pc := 24) (j := i) dX12_findFar_24 rfl rfl (by omega) (by decide) ?_
      refine s_iinc (μ := mX12_findFar) (pc := 25) (c := 1) (L2 := [_, _, _, _, _, _, _]) dX12_findFar_25 rfl ic_1 (Nat.le_of_ble_eq_true rfl) rfl rfl ?_
      refine r_goto (μ := mX12_findFar) (pc := 28) (tgt := 2) dX12_findFar_28 (by decide) ?_
      refine WP.L (by rw [show nI (i + 1) = nI i + 1 from by rw [nI_succ]]) (ih (i + 1) (by omega) _ hS.up (fun j hj => ?_))
      by_cases hz : j = i
      · subst hz; rw [up_eq]; show _ = nI (if j = a then 0 else FARn); first | (rw [if_pos h_15]; rfl) | (rw [if_neg h_15]; rfl)
      · rw [up_ne hz]; exact hD j (by omega)
    · have h_15 := (nI_eq (by omega) (by omega)).mp h_15
      refine r_iconst (μ := mX12_findFar) (pc := 18) (v := 0) dX12_findFar_18 ic_0 ?_
      refine r_goto (μ := mX12_findFar) (pc := 19) (tgt := 24) dX12_findFar_19 (by decide) ?_
      refine r_iastore (μ := mX12_findFar) (pc := 24) (j := i) dX12_findFar_24 rfl rfl (by omega) (by decide) ?_
      refine s_iinc (μ := mX12_findFar) (pc := 25) (c := 1) (L2 := [_, _, _, _, _, _, _]) dX12_findFar_25 rfl ic_1 (Nat.le_of_ble_eq_true rfl) rfl rfl ?_
      refine r_goto (μ := mX12_findFar) (pc := 28) (tgt := 2) dX12_findFar_28 (by decide) ?_
      refine WP.L (by rw [show nI (i + 1) = nI i + 1 from by rw [nI_succ]]) (ih (i + 1) (by omega) _ hS.up (fun j hj => ?_))
      by_cases hz : j = i
      · subst hz; rw [up_eq]; show _ = nI (if j = a then 0 else FARn); first | (rw [if_pos h_15]; rfl) | (rw [if_neg h_15]; rfl)
      · rw [up_ne hz]; exact hD j (by omega)

theorem c_findFar {d : Nat} {mi : MI} {mr : MR} (hM : MB mr) {s : Rw} (hs : mi 1 = s) {n m p q : Nat} (hI : Inv s n m p q) {a : Nat} (ha : a < n) : CP (d + 5) mX12_findFar [.ref 0, .int (nI a)] shM mi mr 0 0 (PV shM mr (fun mi2 => SF mi mi2 ∧ ∀ j, j < 10 → mi2 12 j = nI (farS s q m a j))) := by
  refine CP.of (L := [_, _, _, _, _, _, _]) (by decide) rfl rfl (Nat.le_of_ble_eq_true rfl) ?_
  refine r_iconst (μ := mX12_findFar) (pc := 0) (v := 0) dX12_findFar_0 ic_0 ?_
  refine s_istore_n (μ := mX12_findFar) (pc := 1) (L2 := [_, _, _, _, _, _, _]) dX12_findFar_1 rfl (Nat.le_of_ble_eq_true rfl) (Nat.le_of_ble_eq_true rfl) rfl rfl ?_
  exact lp_ffS hM hs hI ha (fun mi2 h h2 => PV_i ⟨h, h2⟩) 10 0 rfl mi (SF.rf mi) (fun j hj => absurd hj (Nat.not_lt_zero _))

