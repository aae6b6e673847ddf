theorem tcp_B {mr : MR} {b b2 i : Nat} (hB : CB mr) (hb : isT b) : CB (tcp mr b b2 i) := fun a k c h => by
  have hn : a ≠ b + 9 := by
    intro e
    subst e
    rcases hb with rfl | rfl | rfl <;> cases h
  rw [tcp_ne hn]
  exact hB a k c h
theorem chk_at {f g : Rw} {wt K J : Nat} (h : ∀ j, j < J → j < wt ∧ f j = g j) (hJ : J < K) (hn : ¬ (J < wt ∧ f J = g J)) : chkS f g wt K = nI (1 + J) := by
  unfold chkS
  rcases Nat.lt_or_ge J wt with z | z
  · have e := agr_at (f := f) (g := g) (i := J) (fun j hj => (h j hj).2) (fun q => hn ⟨z, q⟩) (min wt K) (by omega)
    rw [e, if_neg (by omega)]
  · have hw : wt = J := by
      rcases Nat.eq_zero_or_pos J with y | y
      · omega
      · have := (h (J - 1) (by omega)).1
        omega
    subst hw
    rw [Nat.min_eq_left (by omega), agr_all wt (fun j hj => (h j hj).2), if_neg (by omega)]
theorem chk_end {f g : Rw} {wt K : Nat} (h : ∀ j, j < K → j < wt ∧ f j = g j) : chkS f g wt K = if K < wt then nI (1 + K) else 0 := by
  unfold chkS
  have hw : K ≤ wt := by
    rcases Nat.eq_zero_or_pos K with y | y
    · omega
    · have := (h (K - 1) (by omega)).1
      omega
  rw [Nat.min_eq_right hw, agr_all K (fun j hj => (h j hj).2)]
  by_cases e : K < wt
  · rw [if_neg (by omega), if_pos e]
  · rw [if_pos (by omega), if_neg e]

theorem k_isTold {d : Nat} {sh : List Sh} {mi : MI} {mr : MR} (hF : SHC sh) (hB : CB mr) {j t : Nat} (hj : j < 1000) (ht : t ≤ 60) {v : Int32} : CP (d) mX11_isTold [.ref 0, .int (nI j), .int (nI t), .int v] sh mi mr 0 0 (PI (b2i (decide (j < t) && decide (mi 75 j = v))) sh mi mr) := by
  refine CP.of (L := [_, _, _, _]) (by decide) rfl rfl (Nat.le_of_ble_eq_true rfl) ?_
  refine r_iload_n (μ := mX11_isTold) (pc := 0) dX11_isTold_0 rfl rfl ?_
  refine r_iload_n (μ := mX11_isTold) (pc := 1) dX11_isTold_1 rfl rfl ?_
  refine r_icmp_ge (μ := mX11_isTold) (pc := 2) (tgt := 25) dX11_isTold_2 (by decide) (fun h_2 => ?_) (fun h_2 => ?_)
  · have h2 := (nI_leI (by omega) (by omega)).mp h_2
    have hz : (decide (j < t) && decide (mi 75 j = v)) = false := by rw [decide_eq_false (by omega), Bool.false_and]
    refine r_iconst (μ := mX11_isTold) (pc := 25) (v := 0) dX11_isTold_25 ic_0 ?_
    exact r_iret (μ := mX11_isTold) (pc := 26) dX11_isTold_26 rfl rfl (PI_i (by rw [hz]; rfl))
  · have h2 := mt (nI_leI (a := t) (b := j) (by omega) (by omega)).mpr h_2
    refine r_iload_n (μ := mX11_isTold) (pc := 5) dX11_isTold_5 rfl rfl ?_
    refine r_bipush (μ := mX11_isTold) (pc := 6) (v := 60) dX11_isTold_6 bp_60 ?_
    refine r_icmp_ge (μ := mX11_isTold) (pc := 8) (tgt := 25) dX11_isTold_8 (by decide) (fun h_8 => ?_) (fun h_8 => ?_)
    · have h8 := (nI_leI (a := 60) (by omega) (by omega)).mp h_8
      have hz : (decide (j < t) && decide (mi 75 j = v)) = false := by rw [decide_eq_false (by omega), Bool.false_and]
      refine r_iconst (μ := mX11_isTold) (pc := 25) (v := 0) dX11_isTold_25 ic_0 ?_
      exact r_iret (μ := mX11_isTold) (pc := 26) dX11_isTold_26 rfl rfl (PI_i (by rw [hz]; rfl))
    · have h8 := mt (nI_leI (a := 60) (b := j) (by omega) (by omega)).mpr h_8
      refine r_aload_n (μ := mX11_isTold) (pc := 11) dX11_isTold_11 rfl rfl rfl ?_
      refine r_getR (μ := mX11_isTold) (pc := 12) dX11_isTold_12 fpX11_86 rfl (hF _ _ rfl) (by decide) (hB _ _ _ rfl) ?_
      refine r_iload_n (μ := mX11_isTold) (pc := 15) dX11_isTold_15 rfl rfl ?_
      refine r_iaload (μ := mX11_isTold) (pc := 16) (j := j) dX11_isTold_16 (hF _ _ rfl) rfl (by omega) (by decide) ?_
      refine r_iload_n (μ := mX11_isTold) (pc := 17) dX11_isTold_17 rfl rfl ?_
      refine r_icmp_ne (μ := mX11_isTold) (pc := 18) (tgt := 25) dX11_isTold_18 (by decide) (fun h_18 => ?_) (fun h_18 => ?_)
      · have hz : (decide (j < t) && decide (mi 75 j = v)) = false := by rw [decide_eq_false h_18, Bool.and_false]
        refine r_iconst (μ := mX11_isTold) (pc := 25) (v := 0) dX11_isTold_25 ic_0 ?_
        exact r_iret (μ := mX11_isTold) (pc := 26) dX11_isTold_26 rfl rfl (PI_i (by rw [hz]; rfl))
      · have hz : (decide (j < t) && decide (mi 75 j = v)) = true := by rw [decide_eq_true (by omega), decide_eq_true h_18]; rfl
        refine r_iconst (μ := mX11_isTold) (pc := 21) (v := 1) dX11_isTold_21 ic_1 ?_
        refine r_goto (μ := mX11_isTold) (pc := 22) (tgt := 26) dX11_isTold_22 (by decide) ?_
        exact r_iret (μ := mX11_isTold) (pc := 26) dX11_isTold_26 rfl rfl (PI_i (by rw [hz]; rfl))

theorem k_check_bad {d : Nat} {sh : List Sh} {mi : MI} {mr : MR} (hF : SHC sh) (hB : CB mr) {x : Int32} (hb : ¬ inB x 1 30 = true) : CP (d) mX11_check [.ref 0, .int x] sh mi mr 0 0 (PX sh mr (fun r mi2 => r = BADc ∧ mi2 = upI mi 0 13 0)) := by
  refine CP.of (L := [_, _, _, _, _]) (by decide) rfl rfl (Nat.le_of_ble_eq_true rfl) ?_
  refine r_aload_n (μ := mX11_check) (pc := 0) dX11_check_0 rfl rfl rfl ?_
  refine r_getI (μ := mX11_check) (pc := 1) dX11_check_1 fpX11_89 rfl (hF _ _ rfl) (by decide) ?_
  refine s_istore_n (μ := mX11_check) (pc := 4) (L2 := [_, _, _, _, _]) dX11_check_4 rfl (Nat.le_of_ble_eq_true rfl) (Nat.le_of_ble_eq_true rfl) rfl rfl ?_
  refine r_aload_n (μ := mX11_check) (pc := 5) dX11_check_5 rfl rfl rfl ?_
  refine r_iconst (μ := mX11_check) (pc := 6) (v := 0) dX11_check_6 ic_0 ?_
  refine r_putI (μ := mX11_check) (pc := 7) dX11_check_7 fwX11_89 (hF _ _ rfl) (by decide) rfl ?_
  refine r_iload_n (μ := mX11_check) (pc := 10) dX11_check_10 rfl rfl ?_
  refine r_iconst (μ := mX11_check) (pc := 11) (v := 1) dX11_check_11 ic_1 ?_
  refine r_icmp_lt (μ := mX11_check) (pc := 12) (tgt := 21) dX11_check_12 (by decide) (fun h_12 => ?_) (fun h_12 => ?_)
  · refine r_ldc (μ := mX11_check) (pc := 21) dX11_check_21 ctX11_97 ?_
    exact r_iret (μ := mX11_check) (pc := 23) dX11_check_23 rfl rfl (PX_i ⟨rfl, rfl⟩)
  · refine r_iload_n (μ := mX11_check) (pc := 15) dX11_check_15 rfl rfl ?_
    refine r_bipush (μ := mX11_check) (pc := 16) (v := 30) dX11_check_16 bp_30 ?_
    refine r_icmp_le (μ := mX11_check) (pc := 18) (tgt := 24) dX11_check_18 (by decide) (fun h_18 => ?_) (fun h_18 => ?_)
    · exact absurd (by have h1 := Int32.le_iff_toInt_le.mp h_18; have h2 := mt Int32.lt_iff_toInt_lt.mpr h_12; have e1 : (1 : Int32).toInt = 1 := rfl; have e2 : (30 : Int32).toInt = 30 := rfl; unfold inB; exact decide_eq_true (by omega)) hb
    · refine r_ldc (μ := mX11_check) (pc := 21) dX11_check_21 ctX11_97 ?_
      exact r_iret (μ := mX11_check) (pc := 23) dX11_check_23 rfl rfl (PX_i ⟨rfl, rfl⟩)

theorem k_check_no {d : Nat} {sh : List Sh} {mi : MI} {mr : MR} (hF : SHC sh) (hB : CB mr) {x : Int32} (hb : inB x 1 30 = true) (hi : mi 0 4 = 0) : CP (d) mX11_check [.ref 0, .int x] sh mi mr 0 0 (PX sh mr (fun r mi2 => r = NOc ∧ mi2 = upI mi 0 13 0)) := by
  obtain ⟨hb1, hb2⟩ : 1 ≤ x.toInt ∧ x.toInt ≤ 30 := by unfold inB at hb; simpa using hb
  refine CP.of (L := [_, _, _, _, _]) (by decide) rfl rfl (Nat.le_of_ble_eq_true rfl) ?_
  refine r_aload_n (μ := mX11_check) (pc := 0) dX11_check_0 rfl rfl rfl ?_
  refine r_getI (μ := mX11_check) (pc := 1) dX11_check_1 fpX11_89 rfl (hF _ _ rfl) (by decide) ?_
  refine s_istore_n (μ := mX11_check) (pc := 4) (L2 := [_, _, _, _, _]) dX11_check_4 rfl (Nat.le_of_ble_eq_true rfl) (Nat.le_of_ble_eq_true rfl) rfl rfl ?_
  refine r_aload_n (μ := mX11_check) (pc := 5) dX11_check_5 rfl rfl rfl ?_
  refine r_iconst (μ := mX11_check) (pc := 6) (v := 0) dX11_check_6 ic_0 ?_
  refine r_putI (μ := mX11_check) (pc := 7) dX11_check_7 fwX11_89 (hF _ _ rfl) (by decide) rfl ?_
  refine r_iload_n (μ := mX11_check) (pc := 10) dX11_check_10 rfl rfl ?_
  refine r_iconst (μ := mX11_check) (pc := 11) (v := 1) dX11_check_11 ic_1 ?_
  refine r_icmp_lt (μ := mX11_check) (pc := 12) (tgt := 21) dX11_check_12 (by decide) (fun h_12 => absurd h_12 (fun z => absurd (Int32.lt_iff_toInt_lt.mp z) (by show ¬ x.toInt < 1; omega))) (fun h_12 => ?_)
  refine r_iload_n (μ := mX11_check) (pc := 15) dX11_check_15 rfl rfl ?_
  refine r_bipush (μ := mX11_check) (pc := 16) (v := 30) dX11_check_16 bp_30 ?_
  refine r_icmp_le (μ := mX11_check) (pc := 18) (tgt := 24) dX11_check_18 (by decide) (fun h_18 => ?_) (fun h_18 => absurd (Int32.le_iff_toInt_le.mpr (show x.toInt ≤ (30 : Int32).toInt from hb2)) h_18)
  refine r_aload_n (μ := mX11_check) (pc := 24) dX11_check_24 rfl rfl rfl ?_
  refine r_getI (μ := mX11_check) (pc := 25) dX11_check_25 fpX11_46 rfl (hF _ _ rfl) (by decide) ?_
  refine r_if_ne (μ := mX11_check) (pc := 28) (tgt := 34) dX11_check_28 (by decide) (fun h_28 => absurd (by rw [up_ne (by decide)]; exact hi) h_28) (fun h_28 => ?_)
  refine r_ldc (μ := mX11_check) (pc := 31) dX11_check_31 ctX11_204 ?_
  exact r_iret (μ := mX11_check) (pc := 33) dX11_check_33 rfl rfl (PX_i ⟨rfl, rfl⟩)

theorem lp_kcheck {d : Nat} {sh : List Sh} {mi : MI} {mr : MR} {Q : QT} (hF : SHC sh) (hB : CB mr) {s : Rw} {n m p q : Nat} (hR : RT sh mi mr 32 s n m p q) (hI : Inv s n m p q) (hw : mr 44 0 = some 32) (hW : ∀ l, l < m → mi 45 l = bitsB (rchS s q l) n) {K wt : Nat} (hK : K ≤ 30) (hwt : wt ≤ 60) (hq : ∀ mi2, (∀ x, x ≠ 32 → x ≠ 38 → x ≠ 46 → mi2 x = mi x) → Q (some (.int (chkS (mi 75) (dueS s q n m) wt (2 * K)))) sh mi2 mr) :
    ∀ (k i : Nat), i + k = K → ∀ mi2, (∀ x, x ≠ 32 → x ≠ 38 → x ≠ 46 → mi2 x = mi x) → RT sh mi2 mr 32 (ngtsR s q n m i).1 n m p q → (∀ j, j < 2 * i → j < wt ∧ mi 75 j = (dueS s q n m) j) → ∀ x4 : Value, catL x4 = true → WP (d + 5) mX11_check 58 [.ref 0, .int (nI K), .int (nI wt), .int (nI i), x4] [] sh mi2 mr 0 0 Q := by
  have hn10 := hI.n10; have hm8 := hI.m8; have hp6 := hI.p6; have hq14 := hI.q14
  have hT32 := TB.of hF hB (b := 32) (Or.inr (Or.inr rfl))
  intro k
  induction k with
  | zero =>
    intro i hk mi2 hfr hX hag x4 hx4
    obtain rfl : i = K := by omega
    have hce := chk_end hag
    refine r_iload_n (μ := mX11_check) (pc := 58) dX11_check_58 rfl rfl ?_
    refine r_iload_n (μ := mX11_check) (pc := 59) dX11_check_59 rfl rfl ?_
    refine r_icmp_ge (μ := mX11_check) (pc := 60) (tgt := 145) dX11_check_60 (by decide) (fun h_60 => ?_) (fun h_60 => absurd (nI_le (Nat.le_refl _) (by omega)) h_60)
    refine r_iload_n (μ := mX11_check) (pc := 145) dX11_check_145 rfl rfl ?_
    refine r_iconst (μ := mX11_check) (pc := 146) (v := 2) dX11_check_146 ic_2 ?_
    refine r_iload_n (μ := mX11_check) (pc := 147) dX11_check_147 rfl rfl ?_
    refine r_imul (μ := mX11_check) (pc := 148) dX11_check_148 ?_
    rw [show (2 : Int32) * nI i = nI (2 * i) from pk_mul 2 i]
    refine r_icmp_le (μ := mX11_check) (pc := 149) (tgt := 160) dX11_check_149 (by decide) (fun h_149 => ?_) (fun h_149 => ?_)
    · have h149 := (nI_leI (by omega) (by omega)).mp h_149
      rw [if_neg (by omega)] at hce
      refine r_iconst (μ := mX11_check) (pc := 160) (v := 0) dX11_check_160 ic_0 ?_
      exact r_iret (μ := mX11_check) (pc := 161) dX11_check_161 rfl rfl (by have h9 := hq mi2 hfr; rw [hce] at h9; first | exact h9 | (rw [show (1 : Int32) + nI (2 * i) = nI (1 + 2 * i) from nI_add 1 (2 * i)]; exact h9))
    · have h149 := mt (nI_leI (a := wt) (b := 2 * i) (by omega) (by omega)).mpr h_149
      rw [if_pos (by omega)] at hce
      refine r_iconst (μ := mX11_check) (pc := 152) (v := 1) dX11_check_152 ic_1 ?_
      refine r_iconst (μ := mX11_check) (pc := 153) (v := 2) dX11_check_153 ic_2 ?_
      refine r_iload_n (μ := mX11_check) (pc := 154) dX11_check_154 rfl rfl ?_
      refine r_imul (μ := mX11_check) (pc := 155) dX11_check_155 ?_
      rw [show (2 : Int32) * nI i = nI (2 * i) from pk_mul 2 i]
      refine r_iadd (μ := mX11_check) (pc := 156) dX11_check_156 ?_
      refine r_goto (μ := mX11_check) (pc := 157) (tgt := 161) dX11_check_157 (by decide) ?_
      exact r_iret (μ := mX11_check) (pc := 161) dX11_check_161 rfl rfl (by have h9 := hq mi2 hfr; rw [hce] at h9; first | exact h9 | (rw [show (1 : Int32) + nI (2 * i) = nI (1 + 2 * i) from nI_add 1 (2 * i)]; exact h9))
  | succ k ih =>
    intro i hk mi2 hfr hX hag x4 hx4
    obtain ⟨hIi, hRel⟩ := ngts_ok hI i
    obtain ⟨hIj, hRelj⟩ := ngts_ok hI (i + 1)
    have hWi : ∀ l, l < m → mi2 45 l = bitsB (rchS (ngtsR s q n m i).1 q l) n := fun l hl => by
      rw [hfr 45 (by decide) (by decide) (by decide), hW l hl]
      exact bits_cong n (fun x hx => (rch_cong hRel q (by omega) (by have := hI.fn hl; omega) (by omega)).symm)
    obtain ⟨du0, du1⟩ := due_r (s := s) (q := q) (n := n) (m := m) (i := i)
    refine r_iload_n (μ := mX11_check) (pc := 58) dX11_check_58 rfl rfl ?_
    refine r_iload_n (μ := mX11_check) (pc := 59) dX11_check_59 rfl rfl ?_
    refine r_icmp_ge (μ := mX11_check) (pc := 60) (tgt := 145) dX11_check_60 (by decide) (fun h_60 => absurd h_60 (nI_ge (by omega) (by omega))) (fun h_60 => ?_)
    refine r_aload_n (μ := mX11_check) (pc := 63) dX11_check_63 rfl rfl rfl ?_
    refine r_getR (μ := mX11_check) (pc := 64) dX11_check_64 fpX11_43 rfl (hF _ _ rfl) (by decide) (hB _ _ _ rfl) ?_
    refine r_aload_n (μ := mX11_check) (pc := 67) dX11_check_67 rfl rfl rfl ?_
    refine r_getR (μ := mX11_check) (pc := 68) dX11_check_68 fpX11_55 rfl (hF _ _ rfl) (by decide) (hB _ _ _ rfl) ?_
    refine r_getR (μ := mX11_check) (pc := 71) dX11_check_71 fpX11_211 rfl (hF _ _ rfl) (by decide) (hB _ _ _ rfl) ?_
    refine vX1 (μ := mX11_check) (pc := 74) (c0 := 9) (q0 := (RX9, TX9, 20)) (μ2 := mX9_night) dX11_check_74 (hF _ _ rfl) rfl lkX11_214 imX9_night seX9_X9_night_X9_night mwX9_night (Nat.le_of_ble_eq_true rfl) (k_night hT32 (by decide) hX hIi (hF 45 _ rfl) (by decide) hWi) (fun r_74 mi_74 h_74 => ?_)
    obtain ⟨rfl, h74, hX2⟩ := h_74
    have hX2 : RT sh mi_74 mr 32 (ngtsR s q n m (i + 1)).1 n m p q := hX2
    have h45 : ∀ l, l < m → mi_74 45 l = bitsB (rchS (ngtsR s q n m (i + 1)).1 q l) n := fun l hl => by rw [h74 45 (by decide) (by decide), hfr 45 (by decide) (by decide) (by decide), hW l hl]; exact bits_cong n (fun x hx => (rch_cong hRelj q (by omega) (by have := hI.fn hl; omega) (by omega)).symm)
    refine r_pop (μ := mX11_check) (pc := 77) dX11_check_77 rfl ?_
    refine r_aload_n (μ := mX11_check) (pc := 78) dX11_check_78 rfl rfl rfl ?_
    refine r_getR (μ := mX11_check) (pc := 79) dX11_check_79 fpX11_55 rfl (hF _ _ rfl) (by decide) (hB _ _ _ rfl) ?_
    refine vV0 (μ := mX11_check) (pc := 82) (c0 := 10) (q0 := (RX10, TX10, 4)) (μ2 := mX10_leanAsNow) dX11_check_82 (hF _ _ rfl) rfl lkX11_337 imX10_leanAsNow seX10_X10_leanAsNow_X10_leanAsNow mwX10_leanAsNow (Nat.le_of_ble_eq_true rfl) (k_leanAsNow hF hB (b := 32) (Or.inr (Or.inr rfl)) hw hX2.em hm8) (fun mi_82 h_82 => ?_)
    subst h_82
    have hS := WS.of hX2 hIj (by decide) h45 rfl
    have hX3 := hX2.fr (mi2 := lnI mi_74 32 m) (fun x h1 h2 => lnI_ne (by omega)) (fun x h1 => lnI_ne (by omega))
    have hf3 : ∀ x, x ≠ 32 → x ≠ 38 → x ≠ 46 → lnI mi_74 32 m x = mi x := fun x h1 h2 h3 => by rw [lnI_ne h3, h74 x h1 h2]; exact hfr x h1 h2 h3
    have e75 : lnI mi_74 32 m 75 = mi 75 := hf3 75 (by decide) (by decide) (by decide)
    refine r_iconst (μ := mX11_check) (pc := 85) (v := 2) dX11_check_85 ic_2 ?_
    refine r_iload_n (μ := mX11_check) (pc := 86) dX11_check_86 rfl rfl ?_
    refine r_imul (μ := mX11_check) (pc := 87) dX11_check_87 ?_
    rw [show (2 : Int32) * nI i = nI (2 * i) from pk_mul 2 i]
    refine s_istore (μ := mX11_check) (pc := 88) (L2 := [_, _, _, _, _]) dX11_check_88 (Nat.le_of_ble_eq_true rfl) (Nat.le_of_ble_eq_true rfl) (by simp only [List.all_cons, List.all_nil, catL_i, catL_r, hx4, Bool.and_self]) rfl ?_
    refine r_aload_n (μ := mX11_check) (pc := 90) dX11_check_90 rfl rfl rfl ?_
    refine r_iload (μ := mX11_check) (pc := 91) dX11_check_91 rfl ?_
    refine r_iload_n (μ := mX11_check) (pc := 93) dX11_check_93 rfl rfl ?_
    refine r_aload_n (μ := mX11_check) (pc := 94) dX11_check_94 rfl rfl rfl ?_
    refine r_getR (μ := mX11_check) (pc := 95) dX11_check_95 fpX11_55 rfl (hF _ _ rfl) (by decide) (hB _ _ _ rfl) ?_
    refine vP0 (μ := mX11_check) (pc := 98) (c0 := 10) (q0 := (RX10, TX10, 4)) (μ2 := mX10_standing) dX11_check_98 (hF _ _ rfl) rfl lkX11_340 imX10_standing seX10_X10_standing_X10_standing mwX10_standing (Nat.le_of_ble_eq_true rfl) (k_standing hF hB (b := 32) (Or.inr (Or.inr rfl)) hw hS) ?_
    refine sP1 (μ := mX11_check) (pc := 101) (μ2 := mJ6_bitCount_0f7a4) dX11_check_101 lkX11_251 stJ6_bitCount_0f7a4 mwJ6_bitCount_0f7a4 (Nat.le_of_ble_eq_true rfl) k_bitCount ?_
    rw [bc_bits _ (by omega), ← du0]
    refine vP3 (μ := mX11_check) (pc := 104) (c0 := 11) (q0 := (RX11, TX11, 14)) (μ2 := mX11_isTold) dX11_check_104 (hF _ _ rfl) rfl lkX11_343 imX11_isTold seX11_X11_isTold_X11_isTold mwX11_isTold (Nat.le_of_ble_eq_true rfl) (k_isTold hF hB (by omega) hwt) ?_
    rw [e75]
    refine r_if_ne (μ := mX11_check) (pc := 107) (tgt := 115) dX11_check_107 (by decide) (fun h_107 => ?_) (fun h_107 => ?_)
    · have h_107 := b2i_1 h_107
      rw [Bool.and_eq_true, decide_eq_true_eq, decide_eq_true_eq] at h_107
      refine r_aload_n (μ := mX11_check) (pc := 115) dX11_check_115 rfl rfl rfl ?_
      refine r_iload (μ := mX11_check) (pc := 116) dX11_check_116 rfl ?_
      refine r_iconst (μ := mX11_check) (pc := 118) (v := 1) dX11_check_118 ic_1 ?_
      refine r_iadd (μ := mX11_check) (pc := 119) dX11_check_119 ?_
      rw [show nI (2 * i) + 1 = nI (2 * i + 1) from (nI_succ _).symm]
      refine r_iload_n (μ := mX11_check) (pc := 120) dX11_check_120 rfl rfl ?_
      refine r_aload_n (μ := mX11_check) (pc := 121) dX11_check_121 rfl rfl rfl ?_
      refine r_getR (μ := mX11_check) (pc := 122) dX11_check_122 fpX11_55 rfl (hF _ _ rfl) (by decide) (hB _ _ _ rfl) ?_
      refine vP0 (μ := mX11_check) (pc := 125) (c0 := 10) (q0 := (RX10, TX10, 4)) (μ2 := mX10_groundCount) dX11_check_125 (hF _ _ rfl) rfl lkX11_347 imX10_groundCount seX10_X10_groundCount_X10_groundCount mwX10_groundCount (Nat.le_of_ble_eq_true rfl) (k_groundCount hF hB (b := 32) (Or.inr (Or.inr rfl)) hw hS) ?_
      rw [← du1]
      refine vP3 (μ := mX11_check) (pc := 128) (c0 := 11) (q0 := (RX11, TX11, 14)) (μ2 := mX11_isTold) dX11_check_128 (hF _ _ rfl) rfl lkX11_343 imX11_isTold seX11_X11_isTold_X11_isTold mwX11_isTold (Nat.le_of_ble_eq_true rfl) (k_isTold hF hB (j := 2 * i + 1) (by omega) hwt) ?_
      rw [e75]
      refine r_if_ne (μ := mX11_check) (pc := 131) (tgt := 139) dX11_check_131 (by decide) (fun h_131 => ?_) (fun h_131 => ?_)
      · have h_131 := b2i_1 h_131
        rw [Bool.and_eq_true, decide_eq_true_eq, decide_eq_true_eq] at h_131
        refine s_iinc (μ := mX11_check) (pc := 139) (c := 1) (L2 := [_, _, _, _, _]) dX11_check_139 rfl ic_1 (Nat.le_of_ble_eq_true rfl) (by simp only [List.all_cons, List.all_nil, catL_i, catL_r, hx4, Bool.and_self]) rfl ?_
        refine r_goto (μ := mX11_check) (pc := 142) (tgt := 58) dX11_check_142 (by decide) ?_
        exact WP.L (by rw [nI_succ]) (ih (i + 1) (by omega) _ hf3 hX3 (fun j hj => by rcases Nat.lt_or_ge j (2 * i) with y | y; (· exact hag j y); (· rcases (show j = 2 * i ∨ j = 2 * i + 1 by omega) with e | e; (· rw [e]; exact h_107); (· rw [e]; exact h_131))) (.int (nI (2 * i))) rfl)
      · have h_131 := b2i_0 h_131
        have h131 : ¬ (2 * i + 1 < wt ∧ mi 75 (2 * i + 1) = (dueS s q n m) (2 * i + 1)) := fun z => by rw [decide_eq_true z.1, decide_eq_true z.2] at h_131; cases h_131
        have hce := chk_at (K := 2 * K) (J := 2 * i + 1) (fun j hj => by rcases Nat.lt_or_ge j (2 * i) with y | y; (· exact hag j y); (· rw [show j = 2 * i by omega]; exact h_107)) (by omega) h131
        refine r_iconst (μ := mX11_check) (pc := 134) (v := 2) dX11_check_134 ic_2 ?_
        refine r_iload (μ := mX11_check) (pc := 135) dX11_check_135 rfl ?_
        refine r_iadd (μ := mX11_check) (pc := 137) dX11_check_137 ?_
        exact r_iret (μ := mX11_check) (pc := 138) dX11_check_138 rfl rfl (by have h9 := hq _ hf3; rw [hce] at h9; rw [show (2 : Int32) + nI (2 * i) = nI (1 + (2 * i + 1)) from by rw [show (2 : Int32) = nI 2 from rfl, nI_add]; congr 1; omega]; exact h9)
    · have h_107 := b2i_0 h_107
      have h107 : ¬ (2 * i < wt ∧ mi 75 (2 * i) = (dueS s q n m) (2 * i)) := fun z => by rw [decide_eq_true z.1, decide_eq_true z.2] at h_107; cases h_107
      have hce := chk_at (K := 2 * K) hag (by omega) h107
      refine r_iconst (μ := mX11_check) (pc := 110) (v := 1) dX11_check_110 ic_1 ?_
      refine r_iload (μ := mX11_check) (pc := 111) dX11_check_111 rfl ?_
      refine r_iadd (μ := mX11_check) (pc := 113) dX11_check_113 ?_
      exact r_iret (μ := mX11_check) (pc := 114) dX11_check_114 rfl rfl (by have h9 := hq _ hf3; rw [hce] at h9; rw [show (1 : Int32) + nI (2 * i) = nI (1 + 2 * i) from nI_add 1 (2 * i)]; exact h9)

theorem k_check {d : Nat} {sh : List Sh} {mi : MI} {mr : MR} (hF : SHC sh) (hB : CB mr) {s : Rw} {n m p q : Nat} (hR : RT sh mi mr 20 s n m p q) (hI : Inv s n m p q) (h0 : TxR sh mr 20) {K wt : Nat} (h1 : 1 ≤ K) (hK : K ≤ 30) (hi : ¬ mi 0 4 = 0) (hwt : mi 0 13 = nI wt) (hw60 : wt ≤ 60) : CP (d + 7) mX11_check [.ref 0, .int (nI K)] sh mi mr 0 0 (PY (fun r sh2 mi2 mr2 => r = (chkS (mi 75) (dueS s q n m) wt (2 * K)) ∧ sh2 = sh ∧ mr2 = upR (tcp mr 32 20 14) 44 0 (some 32) ∧ (∀ x, x ≠ 0 → ¬ (32 ≤ x ∧ x < 44) → x ≠ 45 → x ≠ 46 → mi2 x = mi x) ∧ mi2 0 = upd (mi 0) 13 0)) := by
  have hn10 := hI.n10; have hm8 := hI.m8
  refine CP.of (L := [_, _, _, _, _]) (by decide) rfl rfl (Nat.le_of_ble_eq_true rfl) ?_
  refine r_aload_n (μ := mX11_check) (pc := 0) dX11_check_0 rfl rfl rfl ?_
  refine r_getI (μ := mX11_check) (pc := 1) dX11_check_1 fpX11_89 rfl (hF _ _ rfl) (by decide) ?_
  rw [hwt]
  refine s_istore_n (μ := mX11_check) (pc := 4) (L2 := [_, _, _, _, _]) dX11_check_4 rfl (Nat.le_of_ble_eq_true rfl) (Nat.le_of_ble_eq_true rfl) rfl rfl ?_
  refine r_aload_n (μ := mX11_check) (pc := 5) dX11_check_5 rfl rfl rfl ?_
  refine r_iconst (μ := mX11_check) (pc := 6) (v := 0) dX11_check_6 ic_0 ?_
  refine r_putI (μ := mX11_check) (pc := 7) dX11_check_7 fwX11_89 (hF _ _ rfl) (by decide) rfl ?_
  refine r_iload_n (μ := mX11_check) (pc := 10) dX11_check_10 rfl rfl ?_
  refine r_iconst (μ := mX11_check) (pc := 11) (v := 1) dX11_check_11 ic_1 ?_
  refine r_icmp_lt (μ := mX11_check) (pc := 12) (tgt := 21) dX11_check_12 (by decide) (fun h_12 => absurd h_12 (nI_nlt (a := K) (b := 1) h1 (by omega))) (fun h_12 => ?_)
  refine r_iload_n (μ := mX11_check) (pc := 15) dX11_check_15 rfl rfl ?_
  refine r_bipush (μ := mX11_check) (pc := 16) (v := 30) dX11_check_16 bp_30 ?_
  refine r_icmp_le (μ := mX11_check) (pc := 18) (tgt := 24) dX11_check_18 (by decide) (fun h_18 => ?_) (fun h_18 => absurd (nI_le (b := 30) hK (by decide)) h_18)
  refine r_aload_n (μ := mX11_check) (pc := 24) dX11_check_24 rfl rfl rfl ?_
  refine r_getI (μ := mX11_check) (pc := 25) dX11_check_25 fpX11_46 rfl (hF _ _ rfl) (by decide) ?_
  refine r_if_ne (μ := mX11_check) (pc := 28) (tgt := 34) dX11_check_28 (by decide) (fun h_28 => ?_) (fun h_28 => absurd h_28 (by rw [up_ne (by decide)]; exact hi))
  refine r_aload_n (μ := mX11_check) (pc := 34) dX11_check_34 rfl rfl rfl ?_
  refine r_getR (μ := mX11_check) (pc := 35) dX11_check_35 fpX11_43 rfl (hF _ _ rfl) (by decide) (hB _ _ _ rfl) ?_
  refine r_aload_n (μ := mX11_check) (pc := 38) dX11_check_38 rfl rfl rfl ?_
  refine r_getR (μ := mX11_check) (pc := 39) dX11_check_39 fpX11_40 rfl (hF _ _ rfl) (by decide) (hB _ _ _ rfl) ?_
  refine vW1 (μ := mX11_check) (pc := 42) (c0 := 9) (q0 := (RX9, TX9, 20)) (μ2 := mX9_becomeAs) dX11_check_42 (hF _ _ rfl) rfl lkX11_335 imX9_becomeAs seX9_X9_becomeAs_X9_becomeAs mwX9_becomeAs (Nat.le_of_ble_eq_true rfl) (k_ba32_20 hF hB h0) (fun sh_42 mi_42 mr_42 h_42 => ?_)
  obtain ⟨rfl, rfl, hBA⟩ := h_42
  have hR1 := (RT.ba (hR.fr (mi2 := upI mi 0 13 0) (fun x a1 a2 => upI_ne (by omega)) (fun x a1 => upI_ne (by omega))) hI (by decide) (by decide) hBA).1
  have hB := tcp_B (b := 32) (b2 := 20) (i := 14) hB (Or.inr (Or.inr rfl))
  refine r_aload_n (μ := mX11_check) (pc := 45) dX11_check_45 rfl rfl rfl ?_
  refine r_getR (μ := mX11_check) (pc := 46) dX11_check_46 fpX11_55 rfl (hF _ _ rfl) (by decide) (hB _ _ _ rfl) ?_
  refine r_aload_n (μ := mX11_check) (pc := 49) dX11_check_49 rfl rfl rfl ?_
  refine r_getR (μ := mX11_check) (pc := 50) dX11_check_50 fpX11_43 rfl (hF _ _ rfl) (by decide) (hB _ _ _ rfl) ?_
  refine vW1 (μ := mX11_check) (pc := 53) (c0 := 10) (q0 := (RX10, TX10, 4)) (μ2 := mX10_look) dX11_check_53 (hF _ _ rfl) rfl lkX11_208 imX10_look seX10_X10_look_X10_look mwX10_look (Nat.le_of_ble_eq_true rfl) (k_look hF hB (b := 32) (Or.inr (Or.inr rfl)) hR1 hI) (fun sh_53 mi_53 mr_53 h_53 => ?_)
  obtain ⟨rfl, rfl, hfr, hS⟩ := h_53
  have hw := lk_w (mr := tcp mr 32 20 14) (b := 32)
  have hB := lk_B (b := 32) hB
  have hR2 := (hR1.fr (mi2 := mi_53) (fun x a1 a2 => hfr x (by omega) (by omega) (by omega)) (fun x a1 => hfr x (by omega) (by omega) (by omega))).mr (mr2 := upR (tcp mr 32 20 14) 44 0 (some 32)) (fun x hx => upR_ne (by omega))
  have e75 : mi_53 75 = mi 75 := by rw [hfr 75 (by decide) (by decide) (by decide), hBA.1 75 (by decide), upI_ne (by decide)]
  refine r_iconst (μ := mX11_check) (pc := 56) (v := 0) dX11_check_56 ic_0 ?_
  refine s_istore_n (μ := mX11_check) (pc := 57) (L2 := [_, _, _, _, _]) dX11_check_57 rfl (Nat.le_of_ble_eq_true rfl) (Nat.le_of_ble_eq_true rfl) rfl rfl ?_
  exact lp_kcheck (d := d + 2) hF hB hR2 hI hw (fun l hl => hS.r hl) hK hw60 (fun mi2 h => PY_i ⟨by rw [e75], rfl, rfl, fun x a1 a2 a3 a4 => by rw [h x (by omega) (by omega) a4, hfr x a3 a4 (by omega), hBA.1 x (by omega), upI_ne a1], by rw [h 0 (by decide) (by decide) (by decide), hfr 0 (by decide) (by decide) (by decide), hBA.1 0 (by decide), upI_self]⟩) K 0 (Nat.zero_add _) _ (fun _ _ _ _ => rfl) hR2 (fun j hj => absurd hj (by omega)) _ rfl

