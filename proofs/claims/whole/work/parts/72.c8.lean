theorem mes_up {mi : MI} {D : Nat → Nat} {y v : Nat} (h : ∀ j, j < 10 → mi 47 j = nI (D j)) : ∀ j, j < 10 → upI mi 47 y (nI v) 47 j = nI (updN D y v j) := by
  intro j hj
  by_cases q : j = y
  · subst q; rw [up_eq, updN_s]
  · rw [up_ne q, updN_n q]; exact h j hj
/-- what shorten does: D to D2, with its answer -/
def ShR (D : Nat → Nat) (x y by_ : Nat) (D2 : Nat → Nat) (r : Bool) : Prop := (r = true ∧ D x + by_ < D y ∧ D2 = updN D y (D x + by_)) ∨ (r = true ∧ D y + by_ < D x ∧ D2 = updN D x (D y + by_)) ∨ (r = false ∧ D2 = D ∧ D y ≤ D x + by_ ∧ D x ≤ D y + by_)

theorem k_shorten {d : Nat} {sh : List Sh} {mi : MI} {mr : MR} (hF : SHC sh) (hB : CB mr) {D : Nat → Nat} (hD : ∀ j, j < 10 → mi 47 j = nI (D j)) (hD6 : ∀ j, D j ≤ 1000000) {x y w : Nat} (hx : x < 10) (hy : y < 10) (hw : w ≤ 1000) : CP d mX10_shorten [.ref 44, .int (nI x), .int (nI y), .int (nI w)] sh mi mr 0 0 (PX sh mr (fun r mi2 => ∃ D2 rb, r = b2i rb ∧ SP 47 mi mi2 ∧ (∀ j, j < 10 → mi2 47 j = nI (D2 j)) ∧ ShR D x y w D2 rb)) := by
  have hdx := hD6 x; have hdy := hD6 y
  refine CP.of (L := [_, _, _, _]) (by decide) rfl rfl (Nat.le_of_ble_eq_true rfl) ?_
  refine r_aload_n (μ := mX10_shorten) (pc := 0) dX10_shorten_0 rfl rfl rfl ?_
  refine r_getR (μ := mX10_shorten) (pc := 1) dX10_shorten_1 fpX10_18 rfl (hF _ _ rfl) (by decide) (hB _ _ _ rfl) ?_
  refine r_iload_n (μ := mX10_shorten) (pc := 4) dX10_shorten_4 rfl rfl ?_
  refine r_iaload (μ := mX10_shorten) (pc := 5) (j := x) dX10_shorten_5 (hF _ _ rfl) rfl (by omega) (by decide) ?_
  rw [hD x hx]
  refine r_iload_n (μ := mX10_shorten) (pc := 6) dX10_shorten_6 rfl rfl ?_
  refine r_iadd (μ := mX10_shorten) (pc := 7) dX10_shorten_7 ?_
  rw [nI_add]
  refine r_aload_n (μ := mX10_shorten) (pc := 8) dX10_shorten_8 rfl rfl rfl ?_
  refine r_getR (μ := mX10_shorten) (pc := 9) dX10_shorten_9 fpX10_18 rfl (hF _ _ rfl) (by decide) (hB _ _ _ rfl) ?_
  refine r_iload_n (μ := mX10_shorten) (pc := 12) dX10_shorten_12 rfl rfl ?_
  refine r_iaload (μ := mX10_shorten) (pc := 13) (j := y) dX10_shorten_13 (hF _ _ rfl) rfl (by omega) (by decide) ?_
  rw [hD y hy]
  refine r_icmp_ge (μ := mX10_shorten) (pc := 14) (tgt := 33) dX10_shorten_14 (by decide) (fun h_14 => ?_) (fun h_14 => ?_)
  · have h14 := (nI_leI (by omega) (by omega)).mp h_14
    refine r_aload_n (μ := mX10_shorten) (pc := 33) dX10_shorten_33 rfl rfl rfl ?_
    refine r_getR (μ := mX10_shorten) (pc := 34) dX10_shorten_34 fpX10_18 rfl (hF _ _ rfl) (by decide) (hB _ _ _ rfl) ?_
    refine r_iload_n (μ := mX10_shorten) (pc := 37) dX10_shorten_37 rfl rfl ?_
    refine r_iaload (μ := mX10_shorten) (pc := 38) (j := y) dX10_shorten_38 (hF _ _ rfl) rfl (by omega) (by decide) ?_
    rw [hD y hy]
    refine r_iload_n (μ := mX10_shorten) (pc := 39) dX10_shorten_39 rfl rfl ?_
    refine r_iadd (μ := mX10_shorten) (pc := 40) dX10_shorten_40 ?_
    rw [nI_add]
    refine r_aload_n (μ := mX10_shorten) (pc := 41) dX10_shorten_41 rfl rfl rfl ?_
    refine r_getR (μ := mX10_shorten) (pc := 42) dX10_shorten_42 fpX10_18 rfl (hF _ _ rfl) (by decide) (hB _ _ _ rfl) ?_
    refine r_iload_n (μ := mX10_shorten) (pc := 45) dX10_shorten_45 rfl rfl ?_
    refine r_iaload (μ := mX10_shorten) (pc := 46) (j := x) dX10_shorten_46 (hF _ _ rfl) rfl (by omega) (by decide) ?_
    rw [hD x hx]
    refine r_icmp_ge (μ := mX10_shorten) (pc := 47) (tgt := 66) dX10_shorten_47 (by decide) (fun h_47 => ?_) (fun h_47 => ?_)
    · have h47 := (nI_leI (by omega) (by omega)).mp h_47
      refine r_iconst (μ := mX10_shorten) (pc := 66) (v := 0) dX10_shorten_66 ic_0 ?_
      exact r_iret (μ := mX10_shorten) (pc := 67) dX10_shorten_67 rfl rfl (PX_i ⟨D, false, rfl, SP.rf _ _, hD, Or.inr (Or.inr ⟨rfl, rfl, h14, h47⟩)⟩)
    · have h47 := mt (nI_leI (a := D x) (b := D y + w) (by omega) (by omega)).mpr h_47
      refine r_aload_n (μ := mX10_shorten) (pc := 50) dX10_shorten_50 rfl rfl rfl ?_
      refine r_getR (μ := mX10_shorten) (pc := 51) dX10_shorten_51 fpX10_18 rfl (hF _ _ rfl) (by decide) (hB _ _ _ rfl) ?_
      refine r_iload_n (μ := mX10_shorten) (pc := 54) dX10_shorten_54 rfl rfl ?_
      refine r_aload_n (μ := mX10_shorten) (pc := 55) dX10_shorten_55 rfl rfl rfl ?_
      refine r_getR (μ := mX10_shorten) (pc := 56) dX10_shorten_56 fpX10_18 rfl (hF _ _ rfl) (by decide) (hB _ _ _ rfl) ?_
      refine r_iload_n (μ := mX10_shorten) (pc := 59) dX10_shorten_59 rfl rfl ?_
      refine r_iaload (μ := mX10_shorten) (pc := 60) (j := y) dX10_shorten_60 (hF _ _ rfl) rfl (by omega) (by decide) ?_
      rw [hD y hy]
      refine r_iload_n (μ := mX10_shorten) (pc := 61) dX10_shorten_61 rfl rfl ?_
      refine r_iadd (μ := mX10_shorten) (pc := 62) dX10_shorten_62 ?_
      rw [nI_add]
      refine r_iastore (μ := mX10_shorten) (pc := 63) (j := x) dX10_shorten_63 (hF _ _ rfl) rfl (by omega) (by decide) ?_
      refine r_iconst (μ := mX10_shorten) (pc := 64) (v := 1) dX10_shorten_64 ic_1 ?_
      exact r_iret (μ := mX10_shorten) (pc := 65) dX10_shorten_65 rfl rfl (PX_i ⟨_, true, rfl, fun z hz => upI_ne hz, mes_up hD, Or.inr (Or.inl ⟨rfl, by omega, rfl⟩)⟩)
  · have h14 := mt (nI_leI (a := D y) (b := D x + w) (by omega) (by omega)).mpr h_14
    refine r_aload_n (μ := mX10_shorten) (pc := 17) dX10_shorten_17 rfl rfl rfl ?_
    refine r_getR (μ := mX10_shorten) (pc := 18) dX10_shorten_18 fpX10_18 rfl (hF _ _ rfl) (by decide) (hB _ _ _ rfl) ?_
    refine r_iload_n (μ := mX10_shorten) (pc := 21) dX10_shorten_21 rfl rfl ?_
    refine r_aload_n (μ := mX10_shorten) (pc := 22) dX10_shorten_22 rfl rfl rfl ?_
    refine r_getR (μ := mX10_shorten) (pc := 23) dX10_shorten_23 fpX10_18 rfl (hF _ _ rfl) (by decide) (hB _ _ _ rfl) ?_
    refine r_iload_n (μ := mX10_shorten) (pc := 26) dX10_shorten_26 rfl rfl ?_
    refine r_iaload (μ := mX10_shorten) (pc := 27) (j := x) dX10_shorten_27 (hF _ _ rfl) rfl (by omega) (by decide) ?_
    rw [hD x hx]
    refine r_iload_n (μ := mX10_shorten) (pc := 28) dX10_shorten_28 rfl rfl ?_
    refine r_iadd (μ := mX10_shorten) (pc := 29) dX10_shorten_29 ?_
    rw [nI_add]
    refine r_iastore (μ := mX10_shorten) (pc := 30) (j := y) dX10_shorten_30 (hF _ _ rfl) rfl (by omega) (by decide) ?_
    refine r_iconst (μ := mX10_shorten) (pc := 31) (v := 1) dX10_shorten_31 ic_1 ?_
    exact r_iret (μ := mX10_shorten) (pc := 32) dX10_shorten_32 rfl rfl (PX_i ⟨_, true, rfl, fun z hz => upI_ne hz, mes_up hD, Or.inl ⟨rfl, by omega, rfl⟩⟩)

theorem lp_mfI {d : Nat} {sh : List Sh} {mi : MI} {mr : MR} {Q : QT} (hF : SHC sh) (hB : CB mr) {b : Nat} (hTb : isT b) (hw : mr 44 0 = some b) {s : Rw} {n m p q : Nat} (hR : RT sh mi mr b s n m p q) (hI : Inv s n m p q) (hS : WS mi b s n m q) {a : Nat} {D0 : Nat → Nat} {rd : Int32} (k108 : ∀ D2 fl2 mi3, SP 47 mi mi3 → (∀ j, j < 10 → mi3 47 j = nI (D2 j)) → PvI (stdS s q) (fN s) (tN s) (wM s) m a 16 D0 D2 m fl2 → WP (d + 4) mX10_measureFrom 108 [.ref 44, .int (nI a), .int (bitsB (stdS s q) m), .int rd, .int fl2, .int (nI m)] [] sh mi3 mr 0 0 Q) :
    ∀ (k i : Nat), i + k = m → ∀ D fl mi2, SP 47 mi mi2 → (∀ j, j < 10 → mi2 47 j = nI (D j)) → PvI (stdS s q) (fN s) (tN s) (wM s) m a 16 D0 D i fl → WP (d + 4) mX10_measureFrom 40 [.ref 44, .int (nI a), .int (bitsB (stdS s q) m), .int rd, .int fl, .int (nI i)] [] sh mi2 mr 0 0 Q := by
  have hT := TB.of hF hB hTb
  have hb44 : b + 11 < 44 := by unfold isT at hTb; omega
  have hn10 := hI.n10; have hm8 := hI.m8
  intro k
  induction k with
  | zero =>
    intro i hk D fl mi2 hX hD hP
    obtain rfl : i = m := by omega
    have hS2 := hS.fr (mi2 := mi2) (fun x hx => hX x (by omega))
    refine r_iload (μ := mX10_measureFrom) (pc := 40) dX10_measureFrom_40 rfl ?_
    refine r_aload_n (μ := mX10_measureFrom) (pc := 42) dX10_measureFrom_42 rfl rfl rfl ?_
    refine r_getR (μ := mX10_measureFrom) (pc := 43) dX10_measureFrom_43 fpX10_21 rfl (hF _ _ rfl) (by decide) hw ?_
    refine r_getI (μ := mX10_measureFrom) (pc := 46) dX10_measureFrom_46 fpX10_25 rfl (hT.1 0 _ rfl) (by decide) ?_
    rw [hS2.em]
    refine r_icmp_ge (μ := mX10_measureFrom) (pc := 49) (tgt := 108) dX10_measureFrom_49 (by decide) (fun h_49 => ?_) (fun h_49 => absurd (nI_le (Nat.le_refl _) (by omega)) h_49)
    exact k108 D fl mi2 hX hD hP
  | succ k ih =>
    intro i hk D fl mi2 hX hD hP
    have hi : i < m := by omega
    have hf := hS.fn hi
    have ht := hS.tn hi
    have hS2 := hS.fr (mi2 := mi2) (fun x hx => hX x (by omega))
    have hR2 := hR.fr (mi2 := mi2) (fun x h1 h2 => hX x (by omega)) (fun x h1 => hX x (by omega))
    obtain ⟨hwe, hw40⟩ := wM_ok hI hi
    refine r_iload (μ := mX10_measureFrom) (pc := 40) dX10_measureFrom_40 rfl ?_
    refine r_aload_n (μ := mX10_measureFrom) (pc := 42) dX10_measureFrom_42 rfl rfl rfl ?_
    refine r_getR (μ := mX10_measureFrom) (pc := 43) dX10_measureFrom_43 fpX10_21 rfl (hF _ _ rfl) (by decide) hw ?_
    refine r_getI (μ := mX10_measureFrom) (pc := 46) dX10_measureFrom_46 fpX10_25 rfl (hT.1 0 _ rfl) (by decide) ?_
    rw [hS2.em]
    refine r_icmp_ge (μ := mX10_measureFrom) (pc := 49) (tgt := 108) dX10_measureFrom_49 (by decide) (fun h_49 => absurd h_49 (nI_ge (by omega) (by omega))) (fun h_49 => ?_)
    refine r_iload_n (μ := mX10_measureFrom) (pc := 52) dX10_measureFrom_52 rfl rfl ?_
    refine r_iload (μ := mX10_measureFrom) (pc := 53) dX10_measureFrom_53 rfl ?_
    refine snP2 (μ := mX10_measureFrom) (pc := 55) (μ2 := mX11_has) dX10_measureFrom_55 lkX10_41 stX11_has mwX11_has (Nat.le_of_ble_eq_true rfl) (k_has rfl (by omega)) ?_
    refine r_if_eq (μ := mX10_measureFrom) (pc := 58) (tgt := 102) dX10_measureFrom_58 (by decide) (fun h_58 => ?_) (fun h_58 => ?_)
    · have h_58 := b2i_0 h_58
      rw [bt_std hm8 hi] at h_58
      refine s_iinc (μ := mX10_measureFrom) (pc := 102) (c := 1) (L2 := [_, _, _, _, _, _]) dX10_measureFrom_102 rfl ic_1 (Nat.le_of_ble_eq_true rfl) rfl rfl ?_
      refine r_goto (μ := mX10_measureFrom) (pc := 105) (tgt := 40) dX10_measureFrom_105 (by decide) ?_
      exact WP.L (by rw [nI_succ]) (ih (i + 1) (by omega) _ _ _ hX hD (hP.no (fun z => absurd (h_58.symm.trans z) (by decide))))
    · have h_58 := b2i_1 h_58
      rw [bt_std hm8 hi] at h_58
      refine r_aload_n (μ := mX10_measureFrom) (pc := 61) dX10_measureFrom_61 rfl rfl rfl ?_
      refine r_aload_n (μ := mX10_measureFrom) (pc := 62) dX10_measureFrom_62 rfl rfl rfl ?_
      refine r_getR (μ := mX10_measureFrom) (pc := 63) dX10_measureFrom_63 fpX10_21 rfl (hF _ _ rfl) (by decide) hw ?_
      refine r_getR (μ := mX10_measureFrom) (pc := 66) dX10_measureFrom_66 fpX10_53 rfl (hT.1 0 _ rfl) (by decide) (hT.2.1 _ _ rfl) ?_
      refine r_iload (μ := mX10_measureFrom) (pc := 69) dX10_measureFrom_69 rfl ?_
      refine r_iaload (μ := mX10_measureFrom) (pc := 71) (j := i) dX10_measureFrom_71 (hT.1 _ _ rfl) rfl (by omega) (by decide) ?_
      rw [hS2.f hi]
      refine r_aload_n (μ := mX10_measureFrom) (pc := 72) dX10_measureFrom_72 rfl rfl rfl ?_
      refine r_getR (μ := mX10_measureFrom) (pc := 73) dX10_measureFrom_73 fpX10_15 rfl (hF _ _ rfl) (by decide) (hB _ _ _ rfl) ?_
      refine r_iload (μ := mX10_measureFrom) (pc := 76) dX10_measureFrom_76 rfl ?_
      refine r_iaload (μ := mX10_measureFrom) (pc := 78) (j := i) dX10_measureFrom_78 (hF _ _ rfl) rfl (by omega) (by decide) ?_
      rw [hS2.t hi]
      refine r_aload_n (μ := mX10_measureFrom) (pc := 79) dX10_measureFrom_79 rfl rfl rfl ?_
      refine r_getR (μ := mX10_measureFrom) (pc := 80) dX10_measureFrom_80 fpX10_21 rfl (hF _ _ rfl) (by decide) hw ?_
      refine r_iload (μ := mX10_measureFrom) (pc := 83) dX10_measureFrom_83 rfl ?_
      refine vP1 (μ := mX10_measureFrom) (pc := 85) (c0 := 9) (q0 := (RX9, TX9, 20)) (μ2 := mX9_minutesOf) dX10_measureFrom_85 (hT.1 0 _ rfl) rfl lkX10_77 imX9_minutesOf seX9_X9_minutesOf_X9_minutesOf mwX9_minutesOf (Nat.le_of_ble_eq_true rfl) (k_minutesOf hT (by omega) hR2 hI hi) ?_
      rw [hwe]
      refine r_bipush (μ := mX10_measureFrom) (pc := 88) (v := 16) dX10_measureFrom_88 bp_16 ?_
      refine r_imul (μ := mX10_measureFrom) (pc := 90) dX10_measureFrom_90 ?_
      refine r_iconst (μ := mX10_measureFrom) (pc := 91) (v := 1) dX10_measureFrom_91 ic_1 ?_
      refine r_iadd (μ := mX10_measureFrom) (pc := 92) dX10_measureFrom_92 ?_
      rw [show nI (wM s i) * 16 + 1 = nI (16 * wM s i + 1) from by rw [Nat.mul_comm 16, ← nI_add, ← pk_mul]; rfl]
      refine vX3 (μ := mX10_measureFrom) (pc := 93) (c0 := 10) (q0 := (RX10, TX10, 4)) (μ2 := mX10_shorten) dX10_measureFrom_93 (hF _ _ rfl) rfl lkX10_80 imX10_shorten seX10_X10_shorten_X10_shorten mwX10_shorten (Nat.le_of_ble_eq_true rfl) (k_shorten hF hB hD (fun j => (hP.2.1 j).le) (by omega) (by omega) (by omega)) (fun r_93 mi_93 h_93 => ?_)
      obtain ⟨D2, rb, rfl, hX2, hD2, hSh⟩ := h_93
      refine r_if_eq (μ := mX10_measureFrom) (pc := 96) (tgt := 102) dX10_measureFrom_96 (by decide) (fun h_96 => ?_) (fun h_96 => ?_)
      · have h_96 := b2i_0 h_96
        refine s_iinc (μ := mX10_measureFrom) (pc := 102) (c := 1) (L2 := [_, _, _, _, _, _]) dX10_measureFrom_102 rfl ic_1 (Nat.le_of_ble_eq_true rfl) rfl rfl ?_
        refine r_goto (μ := mX10_measureFrom) (pc := 105) (tgt := 40) dX10_measureFrom_105 (by decide) ?_
        rcases hSh with ⟨z, -⟩ | ⟨z, -⟩ | ⟨-, rfl, z1, z2⟩
        · rw [h_96] at z; cases z
        · rw [h_96] at z; cases z
        · exact WP.L (by rw [nI_succ]) (ih (i + 1) (by omega) _ _ _ (hX.tr hX2) hD2 (hP.no (fun _ => ⟨z1, z2⟩)))
      · have h_96 := b2i_1 h_96
        refine r_iconst (μ := mX10_measureFrom) (pc := 99) (v := 1) dX10_measureFrom_99 ic_1 ?_
        refine s_istore (μ := mX10_measureFrom) (pc := 100) (L2 := [_, _, _, _, _, _]) dX10_measureFrom_100 (Nat.le_of_ble_eq_true rfl) (Nat.le_of_ble_eq_true rfl) rfl rfl ?_
        refine s_iinc (μ := mX10_measureFrom) (pc := 102) (c := 1) (L2 := [_, _, _, _, _, _]) dX10_measureFrom_102 rfl ic_1 (Nat.le_of_ble_eq_true rfl) rfl rfl ?_
        refine r_goto (μ := mX10_measureFrom) (pc := 105) (tgt := 40) dX10_measureFrom_105 (by decide) ?_
        rcases hSh with ⟨-, z1, rfl⟩ | ⟨-, z1, rfl⟩ | ⟨z, -⟩
        · exact WP.L (by rw [nI_succ]) (ih (i + 1) (by omega) _ _ _ (hX.tr hX2) hD2 (hP.up hi h_58 (Or.inl ⟨rfl, rfl⟩) z1))
        · exact WP.L (by rw [nI_succ]) (ih (i + 1) (by omega) _ _ _ (hX.tr hX2) hD2 (hP.up hi h_58 (Or.inr ⟨rfl, rfl⟩) z1))
        · rw [h_96] at z; cases z

theorem lp_mfO {d : Nat} {sh : List Sh} {mi : MI} {mr : MR} {Q : QT} (hF : SHC sh) (hB : CB mr) {b : Nat} (hTb : isT b) (hw : mr 44 0 = some b) {s : Rw} {n m p q : Nat} (hR : RT sh mi mr b s n m p q) (hI : Inv s n m p q) (hS : WS mi b s n m q) {a : Nat} (ha : a < n) (hq : ∀ mi2, SP 47 mi mi2 → (∀ j, j < 10 → mi2 47 j = nI (mesS s q m a j)) → Q none sh mi2 mr) :
    ∀ (k i : Nat), i + k = n → ∀ D mi2, SP 47 mi mi2 → (∀ j, j < 10 → mi2 47 j = nI (D j)) → D a = 0 → (∀ x, SnD (stdS s q) (fN s) (tN s) (wM s) m a 16 D x) → TlD (stdS s q) (fN s) (tN s) (wM s) m a 16 D i → ∀ x4 x5 : Value, catL x4 = true → catL x5 = true → WP (d + 4) mX10_measureFrom 23 [.ref 44, .int (nI a), .int (bitsB (stdS s q) m), .int (nI i), x4, x5] [] sh mi2 mr 0 0 Q := by
  have hT := TB.of hF hB hTb
  have hb44 : b + 11 < 44 := by unfold isT at hTb; omega
  have hn10 := hI.n10; have hm8 := hI.m8
  have hfin : ∀ D, (∀ x, SnD (stdS s q) (fN s) (tN s) (wM s) m a 16 D x) → TlD (stdS s q) (fN s) (tN s) (wM s) m a 16 D n → ∀ j, D j = mesS s q m a j := fun D h1 h2 j => dS_eq ha (fun l hl => hI.fn hl) (fun l hl => hI.tn hl) (fun l hl => (wM_ok hI hl).2) (by decide) hn10 (h1 j) (fun e M he hw2 => h2 e j M (by omega) hw2)
  intro k
  induction k with
  | zero =>
    intro i hk D mi2 hX hD h0 hsn htl x4 x5 hx4 hx5
    obtain rfl : i = n := by omega
    have hS2 := hS.fr (mi2 := mi2) (fun x hx => hX x (by omega))
    refine r_iload_n (μ := mX10_measureFrom) (pc := 23) dX10_measureFrom_23 rfl rfl ?_
    refine r_aload_n (μ := mX10_measureFrom) (pc := 24) dX10_measureFrom_24 rfl rfl rfl ?_
    refine r_getR (μ := mX10_measureFrom) (pc := 25) dX10_measureFrom_25 fpX10_21 rfl (hF _ _ rfl) (by decide) hw ?_
    refine r_getI (μ := mX10_measureFrom) (pc := 28) dX10_measureFrom_28 fpX10_56 rfl (hT.1 0 _ rfl) (by decide) ?_
    rw [hS2.en]
    refine r_icmp_ge (μ := mX10_measureFrom) (pc := 31) (tgt := 122) dX10_measureFrom_31 (by decide) (fun h_31 => ?_) (fun h_31 => absurd (nI_le (Nat.le_refl _) (by omega)) h_31)
    exact r_vret (μ := mX10_measureFrom) (pc := 122) dX10_measureFrom_122 rfl (hq mi2 hX (fun j hj => by rw [hD j hj, hfin D hsn htl j]))
  | succ k ih =>
    intro i hk D mi2 hX hD h0 hsn htl x4 x5 hx4 hx5
    have hS2 := hS.fr (mi2 := mi2) (fun x hx => hX x (by omega))
    refine r_iload_n (μ := mX10_measureFrom) (pc := 23) dX10_measureFrom_23 rfl rfl ?_
    refine r_aload_n (μ := mX10_measureFrom) (pc := 24) dX10_measureFrom_24 rfl rfl rfl ?_
    refine r_getR (μ := mX10_measureFrom) (pc := 25) dX10_measureFrom_25 fpX10_21 rfl (hF _ _ rfl) (by decide) hw ?_
    refine r_getI (μ := mX10_measureFrom) (pc := 28) dX10_measureFrom_28 fpX10_56 rfl (hT.1 0 _ rfl) (by decide) ?_
    rw [hS2.en]
    refine r_icmp_ge (μ := mX10_measureFrom) (pc := 31) (tgt := 122) dX10_measureFrom_31 (by decide) (fun h_31 => absurd h_31 (nI_ge (by omega) (by omega))) (fun h_31 => ?_)
    refine r_iconst (μ := mX10_measureFrom) (pc := 34) (v := 0) dX10_measureFrom_34 ic_0 ?_
    refine s_istore (μ := mX10_measureFrom) (pc := 35) (L2 := [_, _, _, _, _, _]) dX10_measureFrom_35 (Nat.le_of_ble_eq_true rfl) (Nat.le_of_ble_eq_true rfl) (by simp only [List.all_cons, List.all_nil, catL_i, catL_r, hx4, hx5, Bool.and_self]) rfl ?_
    refine r_iconst (μ := mX10_measureFrom) (pc := 37) (v := 0) dX10_measureFrom_37 ic_0 ?_
    refine s_istore (μ := mX10_measureFrom) (pc := 38) (L2 := [_, _, _, _, _, _]) dX10_measureFrom_38 (Nat.le_of_ble_eq_true rfl) (Nat.le_of_ble_eq_true rfl) (by simp only [List.all_cons, List.all_nil, catL_i, catL_r, hx4, hx5, Bool.and_self]) rfl ?_
    refine lp_mfI hF hB hTb hw hR hI hS (D0 := D) (fun D2 fl2 mi3 hX3 hD3 hP3 => ?_) m 0 (Nat.zero_add _) D 0 mi2 hX hD ⟨h0, hsn, fun _ => Nat.le_refl _, fun l hl => absurd hl (Nat.not_lt_zero _), Or.inl ⟨rfl, rfl⟩⟩
    refine r_iload (μ := mX10_measureFrom) (pc := 108) dX10_measureFrom_108 rfl ?_
    refine r_if_ne (μ := mX10_measureFrom) (pc := 110) (tgt := 116) dX10_measureFrom_110 (by decide) (fun h_110 => ?_) (fun h_110 => ?_)
    · refine s_iinc (μ := mX10_measureFrom) (pc := 116) (c := 1) (L2 := [_, _, _, _, _, _]) dX10_measureFrom_116 rfl ic_1 (Nat.le_of_ble_eq_true rfl) rfl rfl ?_
      refine r_goto (μ := mX10_measureFrom) (pc := 119) (tgt := 23) dX10_measureFrom_119 (by decide) ?_
      exact WP.L (by rw [nI_succ]) (ih (i + 1) (by omega) D2 mi3 hX3 hD3 hP3.1 hP3.2.1 (htl.st hP3) _ _ rfl rfl)
    · subst h_110
      refine r_goto (μ := mX10_measureFrom) (pc := 113) (tgt := 122) dX10_measureFrom_113 (by decide) ?_
      exact r_vret (μ := mX10_measureFrom) (pc := 122) dX10_measureFrom_122 rfl (hq mi3 hX3 (fun j hj => by rw [hD3 j hj, hfin D2 hP3.2.1 (hP3.fx n) j]))

theorem k_measureFrom {d : Nat} {sh : List Sh} {mi : MI} {mr : MR} (hF : SHC sh) (hB : CB mr) {b : Nat} (hTb : isT b) (hw : mr 44 0 = some b) {s : Rw} {n m p q : Nat} (hR : RT sh mi mr b s n m p q) (hI : Inv s n m p q) (hS : WS mi b s n m q) {a : Nat} (ha : a < n) : CP (d + 4) mX10_measureFrom [.ref 44, .int (nI a)] sh mi mr 0 0 (PV sh mr (fun mi2 => SP 47 mi mi2 ∧ (∀ j, j < 10 → mi2 47 j = nI (mesS s q m a j)))) := by
  have hT := TB.of hF hB hTb
  have hb44 : b + 11 < 44 := by unfold isT at hTb; omega
  have hn10 := hI.n10; have hm8 := hI.m8
  refine CP.of (L := [_, _, _, _, _, _]) (by decide) rfl rfl (Nat.le_of_ble_eq_true rfl) ?_
  refine r_aload_n (μ := mX10_measureFrom) (pc := 0) dX10_measureFrom_0 rfl rfl rfl ?_
  refine r_getR (μ := mX10_measureFrom) (pc := 1) dX10_measureFrom_1 fpX10_18 rfl (hF _ _ rfl) (by decide) (hB _ _ _ rfl) ?_
  refine r_ldc (μ := mX10_measureFrom) (pc := 4) dX10_measureFrom_4 ctX10_70 ?_
  refine sV2 (μ := mX10_measureFrom) (pc := 6) (μ2 := mJ7_fill_53178) dX10_measureFrom_6 lkX10_71 stJ7_fill_53178 mwJ7_fill_53178 (Nat.le_of_ble_eq_true rfl) (k_fill (hF 47 _ rfl) (by decide)) (fun mi_6 h_6 => ?_)
  subst h_6
  refine r_aload_n (μ := mX10_measureFrom) (pc := 9) dX10_measureFrom_9 rfl rfl rfl ?_
  refine r_getR (μ := mX10_measureFrom) (pc := 10) dX10_measureFrom_10 fpX10_18 rfl (hF _ _ rfl) (by decide) (hB _ _ _ rfl) ?_
  refine r_iload_n (μ := mX10_measureFrom) (pc := 13) dX10_measureFrom_13 rfl rfl ?_
  refine r_iconst (μ := mX10_measureFrom) (pc := 14) (v := 0) dX10_measureFrom_14 ic_0 ?_
  refine r_iastore (μ := mX10_measureFrom) (pc := 15) (j := a) dX10_measureFrom_15 (hF _ _ rfl) rfl (by omega) (by decide) ?_
  refine r_aload_n (μ := mX10_measureFrom) (pc := 16) dX10_measureFrom_16 rfl rfl rfl ?_
  refine vP0 (μ := mX10_measureFrom) (pc := 17) (c0 := 10) (q0 := (RX10, TX10, 4)) (μ2 := mX10_standing) dX10_measureFrom_17 (hF _ _ rfl) rfl lkX10_49 imX10_standing seX10_X10_standing_X10_standing mwX10_standing (Nat.le_of_ble_eq_true rfl) (k_standing hF hB hTb hw (hS.fr (fun x hx => by rw [upI_ne (by omega), flI_ne (by omega)]))) ?_
  refine s_istore_n (μ := mX10_measureFrom) (pc := 20) (L2 := [_, _, _, _, _, _]) dX10_measureFrom_20 rfl (Nat.le_of_ble_eq_true rfl) (Nat.le_of_ble_eq_true rfl) rfl rfl ?_
  refine r_iconst (μ := mX10_measureFrom) (pc := 21) (v := 0) dX10_measureFrom_21 ic_0 ?_
  refine s_istore_n (μ := mX10_measureFrom) (pc := 22) (L2 := [_, _, _, _, _, _]) dX10_measureFrom_22 rfl (Nat.le_of_ble_eq_true rfl) (Nat.le_of_ble_eq_true rfl) rfl rfl ?_
  exact lp_mfO hF hB hTb hw hR hI hS ha (fun mi2 h1 h2 => PV_i ⟨h1, h2⟩) n 0 (Nat.zero_add _) (fun j => if j = a then 0 else FARn) _ (fun x hx => by rw [upI_ne hx, flI_ne hx]) (fun j hj => by by_cases e : j = a; (· subst e; rw [up_eq]; show _ = nI (if j = j then 0 else FARn); rw [if_pos rfl]; rfl); (· rw [up_ne e, flI_at hj]; show _ = nI (if j = a then 0 else FARn); rw [if_neg e]; rfl)) (if_pos rfl) (dK_s 0) (fun e x M he hw2 => by cases Nat.le_zero.mp he; obtain ⟨rfl, rfl⟩ := hw2; exact Nat.le_of_eq (if_pos rfl)) _ _ rfl rfl

theorem k_measured {d : Nat} {sh : List Sh} {mi : MI} {mr : MR} (hF : SHC sh) (hB : CB mr) {D : Nat → Nat} (hD : ∀ j, j < 10 → mi 47 j = nI (D j)) (hD6 : ∀ j, D j ≤ 1000000) {x : Nat} (hx : x < 10) : CP (d) mX10_measured [.ref 44, .int (nI x)] sh mi mr 0 0 (PI (b2i (decide (D x < 1000000))) sh mi mr) := by
  have hdx := hD6 x
  refine CP.of (L := [_, _]) (by decide) rfl rfl (Nat.le_of_ble_eq_true rfl) ?_
  refine r_aload_n (μ := mX10_measured) (pc := 0) dX10_measured_0 rfl rfl rfl ?_
  refine r_getR (μ := mX10_measured) (pc := 1) dX10_measured_1 fpX10_18 rfl (hF _ _ rfl) (by decide) (hB _ _ _ rfl) ?_
  refine r_iload_n (μ := mX10_measured) (pc := 4) dX10_measured_4 rfl rfl ?_
  refine r_iaload (μ := mX10_measured) (pc := 5) (j := x) dX10_measured_5 (hF _ _ rfl) rfl (by omega) (by decide) ?_
  rw [hD x hx]
  refine r_ldc (μ := mX10_measured) (pc := 6) dX10_measured_6 ctX10_70 ?_
  refine r_icmp_ge (μ := mX10_measured) (pc := 8) (tgt := 15) dX10_measured_8 (by decide) (fun h_8 => ?_) (fun h_8 => ?_)
  · have h8 := (nI_leI (a := 1000000) (by omega) (by omega)).mp h_8
    refine r_iconst (μ := mX10_measured) (pc := 15) (v := 0) dX10_measured_15 ic_0 ?_
    exact r_iret (μ := mX10_measured) (pc := 16) dX10_measured_16 rfl rfl (PI_i (by first | (rw [decide_eq_false (by omega)]; rfl) | (rw [decide_eq_true (by omega)]; rfl)))
  · have h8 := mt (nI_leI (a := 1000000) (b := D x) (by omega) (by omega)).mpr h_8
    refine r_iconst (μ := mX10_measured) (pc := 11) (v := 1) dX10_measured_11 ic_1 ?_
    refine r_goto (μ := mX10_measured) (pc := 12) (tgt := 16) dX10_measured_12 (by decide) ?_
    exact r_iret (μ := mX10_measured) (pc := 16) dX10_measured_16 rfl rfl (PI_i (by first | (rw [decide_eq_false (by omega)]; rfl) | (rw [decide_eq_true (by omega)]; rfl)))

theorem k_minutesTo {d : Nat} {sh : List Sh} {mi : MI} {mr : MR} (hF : SHC sh) (hB : CB mr) {D : Nat → Nat} (hD : ∀ j, j < 10 → mi 47 j = nI (D j)) (hD6 : ∀ j, D j ≤ 1000000) {x : Nat} (hx : x < 10) : CP (d + 1) mX10_minutesTo [.ref 44, .int (nI x)] sh mi mr 0 0 (PI (if D x < 1000000 then nI (D x / 16) else 999) sh mi mr) := by
  have hdx := hD6 x
  refine CP.of (L := [_, _]) (by decide) rfl rfl (Nat.le_of_ble_eq_true rfl) ?_
  refine r_aload_n (μ := mX10_minutesTo) (pc := 0) dX10_minutesTo_0 rfl rfl rfl ?_
  refine r_iload_n (μ := mX10_minutesTo) (pc := 1) dX10_minutesTo_1 rfl rfl ?_
  refine vP1 (μ := mX10_minutesTo) (pc := 2) (c0 := 10) (q0 := (RX10, TX10, 4)) (μ2 := mX10_measured) dX10_minutesTo_2 (hF _ _ rfl) rfl lkX10_84 imX10_measured seX10_X10_measured_X10_measured mwX10_measured (Nat.le_of_ble_eq_true rfl) (k_measured hF hB hD hD6 hx) ?_
  refine r_if_eq (μ := mX10_minutesTo) (pc := 5) (tgt := 20) dX10_minutesTo_5 (by decide) (fun h_5 => ?_) (fun h_5 => ?_)
  · have h_5 := b2i_0 h_5
    refine r_sipush (μ := mX10_minutesTo) (pc := 20) (v := 999) dX10_minutesTo_20 sp_999 ?_
    exact r_iret (μ := mX10_minutesTo) (pc := 23) dX10_minutesTo_23 rfl rfl (PI_i (by first | (rw [if_pos (of_decide_eq_true h_5)]) | (rw [if_neg (of_decide_eq_false h_5)])))
  · have h_5 := b2i_1 h_5
    refine r_aload_n (μ := mX10_minutesTo) (pc := 8) dX10_minutesTo_8 rfl rfl rfl ?_
    refine r_getR (μ := mX10_minutesTo) (pc := 9) dX10_minutesTo_9 fpX10_18 rfl (hF _ _ rfl) (by decide) (hB _ _ _ rfl) ?_
    refine r_iload_n (μ := mX10_minutesTo) (pc := 12) dX10_minutesTo_12 rfl rfl ?_
    refine r_iaload (μ := mX10_minutesTo) (pc := 13) (j := x) dX10_minutesTo_13 (hF _ _ rfl) rfl (by omega) (by decide) ?_
    rw [hD x hx]
    refine r_bipush (μ := mX10_minutesTo) (pc := 14) (v := 16) dX10_minutesTo_14 bp_16 ?_
    refine r_idiv (μ := mX10_minutesTo) (pc := 16) dX10_minutesTo_16 (by decide) ?_
    rw [show nI (D x) / 16 = nI (D x / 16) from pk_div (d := 16) (by omega) (by omega) (by omega)]
    refine r_goto (μ := mX10_minutesTo) (pc := 17) (tgt := 23) dX10_minutesTo_17 (by decide) ?_
    exact r_iret (μ := mX10_minutesTo) (pc := 23) dX10_minutesTo_23 rfl rfl (PI_i (by first | (rw [if_pos (of_decide_eq_true h_5)]) | (rw [if_neg (of_decide_eq_false h_5)])))

theorem k_laddersTo {d : Nat} {sh : List Sh} {mi : MI} {mr : MR} (hF : SHC sh) (hB : CB mr) {D : Nat → Nat} (hD : ∀ j, j < 10 → mi 47 j = nI (D j)) (hD6 : ∀ j, D j ≤ 1000000) {x : Nat} (hx : x < 10) : CP (d) mX10_laddersTo [.ref 44, .int (nI x)] sh mi mr 0 0 (PI (nI (D x % 16)) sh mi mr) := by
  have hdx := hD6 x
  refine CP.of (L := [_, _]) (by decide) rfl rfl (Nat.le_of_ble_eq_true rfl) ?_
  refine r_aload_n (μ := mX10_laddersTo) (pc := 0) dX10_laddersTo_0 rfl rfl rfl ?_
  refine r_getR (μ := mX10_laddersTo) (pc := 1) dX10_laddersTo_1 fpX10_18 rfl (hF _ _ rfl) (by decide) (hB _ _ _ rfl) ?_
  refine r_iload_n (μ := mX10_laddersTo) (pc := 4) dX10_laddersTo_4 rfl rfl ?_
  refine r_iaload (μ := mX10_laddersTo) (pc := 5) (j := x) dX10_laddersTo_5 (hF _ _ rfl) rfl (by omega) (by decide) ?_
  rw [hD x hx]
  refine r_bipush (μ := mX10_laddersTo) (pc := 6) (v := 16) dX10_laddersTo_6 bp_16 ?_
  refine r_irem (μ := mX10_laddersTo) (pc := 8) dX10_laddersTo_8 (by decide) ?_
  rw [show nI (D x) - nI (D x) / 16 * 16 = nI (D x % 16) from pk_rem (d := 16) (by omega) (by omega) (by omega)]
  exact r_iret (μ := mX10_laddersTo) (pc := 9) dX10_laddersTo_9 rfl rfl (PI_i rfl)

