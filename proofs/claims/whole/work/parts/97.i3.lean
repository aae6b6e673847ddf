theorem WP.sh {d : Nat} {μ : Mt} {pc : Nat} {L S : List Value} {sh sh2 : List Sh} {mi : MI} {mr : MR} {cb sb : Nat} {Q : QT} (h : sh = sh2) (k : WP d μ pc L S sh2 mi mr cb sb Q) : WP d μ pc L S sh mi mr cb sb Q := h ▸ k
def iniI : MI := (shI (shI (shI (shI (shI (shI (shI (shI (shI (rdI (tnI (tnI (tnI (fun _ => Z0) 8) 20) 32) 48) 53) 55) 57) 59) 65) 67) 69) 71) 73)
theorem ctab_k {a k b : Nat} (h : ctab a k = some b) : k < 20 := by
  have ha := ctab_lt h
  rcases Nat.lt_or_ge k 20 with z | z
  · exact z
  · obtain ⟨j, rfl⟩ : ∃ j, k = j + 20 := ⟨k - 20, by omega⟩
    have e : ∀ a, a < 76 → ctab a (j + 20) = none := by
      intro a ha
      match a, ha with
      | 0, _ => rfl
      | 1, _ => rfl
      | 2, _ => rfl
      | 3, _ => rfl
      | 4, _ => rfl
      | 5, _ => rfl
      | 6, _ => rfl
      | 7, _ => rfl
      | 8, _ => rfl
      | 9, _ => rfl
      | 10, _ => rfl
      | 11, _ => rfl
      | 12, _ => rfl
      | 13, _ => rfl
      | 14, _ => rfl
      | 15, _ => rfl
      | 16, _ => rfl
      | 17, _ => rfl
      | 18, _ => rfl
      | 19, _ => rfl
      | 20, _ => rfl
      | 21, _ => rfl
      | 22, _ => rfl
      | 23, _ => rfl
      | 24, _ => rfl
      | 25, _ => rfl
      | 26, _ => rfl
      | 27, _ => rfl
      | 28, _ => rfl
      | 29, _ => rfl
      | 30, _ => rfl
      | 31, _ => rfl
      | 32, _ => rfl
      | 33, _ => rfl
      | 34, _ => rfl
      | 35, _ => rfl
      | 36, _ => rfl
      | 37, _ => rfl
      | 38, _ => rfl
      | 39, _ => rfl
      | 40, _ => rfl
      | 41, _ => rfl
      | 42, _ => rfl
      | 43, _ => rfl
      | 44, _ => rfl
      | 45, _ => rfl
      | 46, _ => rfl
      | 47, _ => rfl
      | 48, _ => rfl
      | 49, _ => rfl
      | 50, _ => rfl
      | 51, _ => rfl
      | 52, _ => rfl
      | 53, _ => rfl
      | 54, _ => rfl
      | 55, _ => rfl
      | 56, _ => rfl
      | 57, _ => rfl
      | 58, _ => rfl
      | 59, _ => rfl
      | 60, _ => rfl
      | 61, _ => rfl
      | 62, _ => rfl
      | 63, _ => rfl
      | 64, _ => rfl
      | 65, _ => rfl
      | 66, _ => rfl
      | 67, _ => rfl
      | 68, _ => rfl
      | 69, _ => rfl
      | 70, _ => rfl
      | 71, _ => rfl
      | 72, _ => rfl
      | 73, _ => rfl
      | 74, _ => rfl
      | 75, _ => rfl
      | a + 76, h => omega
    rw [e a ha] at h
    cases h
theorem cb_of {mr : MR} (h : ∀ a, a < 76 → ∀ k, k < 20 → ctab a k = none ∨ mr a k = ctab a k) : CB mr := by
  intro a k b hb
  rcases h a (ctab_lt hb) k (ctab_k hb) with z | z
  · rw [z] at hb; cases hb
  · rw [z]; exact hb
/-- every reference points below 76 -/
def RB (mr : MR) : Prop := ∀ a i b, mr a i = some b → b < 76
theorem rbk_0 : RB (fun _ => N0) := fun a i b h => by cases h
theorem rbk_up {mr : MR} {a k v : Nat} (h : RB mr) (hv : v < 76) : RB (upR mr a k (some v)) := by
  intro x i b hb
  unfold upR va_up at hb
  by_cases e : x = a
  · rw [if_pos e] at hb
    have hb : (if i = k then some v else mr a i) = some b := hb
    by_cases e2 : i = k
    · rw [if_pos e2] at hb
      cases hb
      exact hv
    · rw [if_neg e2] at hb
      exact h _ _ _ hb
  · rw [if_neg e] at hb
    exact h _ _ _ hb

theorem k_init {d : Nat} : CP (d + 3) mX11_init [.ref 0] [(15, 14)] (fun _ => Z0) (fun _ => N0) 75 1256 (PW (fun sh2 mi2 mr2 => sh2 = shC ∧ mi2 = iniI ∧ CB mr2 ∧ (∀ b, isT b → ∀ t, mr2 (b + 9) t = none) ∧ RB mr2)) := by
  refine CP.of (L := [_]) (by decide) rfl rfl (Nat.le_of_ble_eq_true rfl) ?_
  refine r_aload_n (μ := mX11_init) (pc := 0) dX11_init_0 rfl rfl rfl ?_
  refine r_obj (μ := mX11_init) (pc := 1) dX11_init_1 lkX11_1 im_obj cd_obj (Nat.le_of_ble_eq_true rfl) ?_
  refine r_aload_n (μ := mX11_init) (pc := 4) dX11_init_4 rfl rfl rfl ?_
  refine r_bipush (μ := mX11_init) (pc := 5) (v := 6) dX11_init_5 bp_6 ?_
  refine r_newqZ (μ := mX11_init) (pc := 7) (t := 0) (N := 6) (a := 1) (cb := 74) (sb := 1250) (sh2 := shC.take 2) dX11_init_7 (by decide) klX11_7 rfl (by decide) rfl rfl rfl rfl ?_
  refine r_dup (μ := mX11_init) (pc := 10) dX11_init_10 rfl ?_
  refine r_iconst (μ := mX11_init) (pc := 11) (v := 0) dX11_init_11 ic_0 ?_
  refine r_newZ (μ := mX11_init) (pc := 12) (c0 := 4) (q0 := (RX4, TX4, 0)) (a := 2) (cb := 73) (sb := 1250) (sh2 := shC.take 3) dX11_init_12 rfl klX11_7 iaX4 inX4 rfl rfl rfl rfl ?_
  refine r_dup (μ := mX11_init) (pc := 15) dX11_init_15 rfl ?_
  refine iN0 (μ := mX11_init) (pc := 16) (μ2 := mX4_init) (cb := 73) (sb := 1250) (mc2 := 0) (ms2 := 0) dX11_init_16 rfl rfl lkX11_9 imX4_init mwX4_init (Nat.le_of_ble_eq_true rfl) (k_X4_init (d := d + 2)) (fun sh_16 mi_16 mr_16 h_16 => ?_)
  obtain ⟨rfl, rfl, rfl⟩ := h_16
  refine r_aastore (μ := mX11_init) (pc := 19) (t := 0) (j := 0) (c0 := 4) (q0 := (RX4, TX4, 0)) dX11_init_19 (by decide) (show _ = some (1, 6) from rfl) rfl (by decide) (by decide) rfl rfl (Or.inl rfl) ?_
  refine r_dup (μ := mX11_init) (pc := 20) dX11_init_20 rfl ?_
  refine r_iconst (μ := mX11_init) (pc := 21) (v := 1) dX11_init_21 ic_1 ?_
  refine r_newZ (μ := mX11_init) (pc := 22) (c0 := 6) (q0 := (RX6, TX6, 0)) (a := 3) (cb := 72) (sb := 1250) (sh2 := shC.take 4) dX11_init_22 rfl klX11_10 iaX6 inX6 rfl rfl rfl rfl ?_
  refine r_dup (μ := mX11_init) (pc := 25) dX11_init_25 rfl ?_
  refine iN0 (μ := mX11_init) (pc := 26) (μ2 := mX6_init) (cb := 72) (sb := 1250) (mc2 := 0) (ms2 := 0) dX11_init_26 rfl rfl lkX11_12 imX6_init mwX6_init (Nat.le_of_ble_eq_true rfl) (k_X6_init (d := d + 1)) (fun sh_26 mi_26 mr_26 h_26 => ?_)
  obtain ⟨rfl, rfl, rfl⟩ := h_26
  refine r_aastore (μ := mX11_init) (pc := 29) (t := 0) (j := 1) (c0 := 6) (q0 := (RX6, TX6, 0)) dX11_init_29 (by decide) (show _ = some (1, 6) from rfl) rfl (by decide) (by decide) rfl rfl (Or.inr caX6_X4) ?_
  refine r_dup (μ := mX11_init) (pc := 30) dX11_init_30 rfl ?_
  refine r_iconst (μ := mX11_init) (pc := 31) (v := 2) dX11_init_31 ic_2 ?_
  refine r_newZ (μ := mX11_init) (pc := 32) (c0 := 2) (q0 := (RX2, TX2, 0)) (a := 4) (cb := 71) (sb := 1250) (sh2 := shC.take 5) dX11_init_32 rfl klX11_13 iaX2 inX2 rfl rfl rfl rfl ?_
  refine r_dup (μ := mX11_init) (pc := 35) dX11_init_35 rfl ?_
  refine iN0 (μ := mX11_init) (pc := 36) (μ2 := mX2_init) (cb := 71) (sb := 1250) (mc2 := 0) (ms2 := 0) dX11_init_36 rfl rfl lkX11_15 imX2_init mwX2_init (Nat.le_of_ble_eq_true rfl) (k_X2_init (d := d + 1)) (fun sh_36 mi_36 mr_36 h_36 => ?_)
  obtain ⟨rfl, rfl, rfl⟩ := h_36
  refine r_aastore (μ := mX11_init) (pc := 39) (t := 0) (j := 2) (c0 := 2) (q0 := (RX2, TX2, 0)) dX11_init_39 (by decide) (show _ = some (1, 6) from rfl) rfl (by decide) (by decide) rfl rfl (Or.inr caX2_X4) ?_
  refine r_dup (μ := mX11_init) (pc := 40) dX11_init_40 rfl ?_
  refine r_iconst (μ := mX11_init) (pc := 41) (v := 3) dX11_init_41 ic_3 ?_
  refine r_newZ (μ := mX11_init) (pc := 42) (c0 := 0) (q0 := (RX0, TX0, 0)) (a := 5) (cb := 70) (sb := 1250) (sh2 := shC.take 6) dX11_init_42 rfl klX11_16 iaX0 inX0 rfl rfl rfl rfl ?_
  refine r_dup (μ := mX11_init) (pc := 45) dX11_init_45 rfl ?_
  refine iN0 (μ := mX11_init) (pc := 46) (μ2 := mX0_init) (cb := 70) (sb := 1250) (mc2 := 0) (ms2 := 0) dX11_init_46 rfl rfl lkX11_18 imX0_init mwX0_init (Nat.le_of_ble_eq_true rfl) (k_X0_init (d := d)) (fun sh_46 mi_46 mr_46 h_46 => ?_)
  obtain ⟨rfl, rfl, rfl⟩ := h_46
  refine r_aastore (μ := mX11_init) (pc := 49) (t := 0) (j := 3) (c0 := 0) (q0 := (RX0, TX0, 0)) dX11_init_49 (by decide) (show _ = some (1, 6) from rfl) rfl (by decide) (by decide) rfl rfl (Or.inr caX0_X4) ?_
  refine r_dup (μ := mX11_init) (pc := 50) dX11_init_50 rfl ?_
  refine r_iconst (μ := mX11_init) (pc := 51) (v := 4) dX11_init_51 ic_4 ?_
  refine r_newZ (μ := mX11_init) (pc := 52) (c0 := 3) (q0 := (RX3, TX3, 0)) (a := 6) (cb := 69) (sb := 1250) (sh2 := shC.take 7) dX11_init_52 rfl klX11_19 iaX3 inX3 rfl rfl rfl rfl ?_
  refine r_dup (μ := mX11_init) (pc := 55) dX11_init_55 rfl ?_
  refine iN0 (μ := mX11_init) (pc := 56) (μ2 := mX3_init) (cb := 69) (sb := 1250) (mc2 := 0) (ms2 := 0) dX11_init_56 rfl rfl lkX11_21 imX3_init mwX3_init (Nat.le_of_ble_eq_true rfl) (k_X3_init (d := d)) (fun sh_56 mi_56 mr_56 h_56 => ?_)
  obtain ⟨rfl, rfl, rfl⟩ := h_56
  refine r_aastore (μ := mX11_init) (pc := 59) (t := 0) (j := 4) (c0 := 3) (q0 := (RX3, TX3, 0)) dX11_init_59 (by decide) (show _ = some (1, 6) from rfl) rfl (by decide) (by decide) rfl rfl (Or.inr caX3_X4) ?_
  refine r_dup (μ := mX11_init) (pc := 60) dX11_init_60 rfl ?_
  refine r_iconst (μ := mX11_init) (pc := 61) (v := 5) dX11_init_61 ic_5 ?_
  refine r_newZ (μ := mX11_init) (pc := 62) (c0 := 1) (q0 := (RX1, TX1, 0)) (a := 7) (cb := 68) (sb := 1250) (sh2 := shC.take 8) dX11_init_62 rfl klX11_22 iaX1 inX1 rfl rfl rfl rfl ?_
  refine r_dup (μ := mX11_init) (pc := 65) dX11_init_65 rfl ?_
  refine iN0 (μ := mX11_init) (pc := 66) (μ2 := mX1_init) (cb := 68) (sb := 1250) (mc2 := 0) (ms2 := 0) dX11_init_66 rfl rfl lkX11_24 imX1_init mwX1_init (Nat.le_of_ble_eq_true rfl) (k_X1_init (d := d + 1)) (fun sh_66 mi_66 mr_66 h_66 => ?_)
  obtain ⟨rfl, rfl, rfl⟩ := h_66
  refine r_aastore (μ := mX11_init) (pc := 69) (t := 0) (j := 5) (c0 := 1) (q0 := (RX1, TX1, 0)) dX11_init_69 (by decide) (show _ = some (1, 6) from rfl) rfl (by decide) (by decide) rfl rfl (Or.inr caX1_X4) ?_
  refine r_putR (μ := mX11_init) (pc := 70) dX11_init_70 fwX11_25 rfl (by decide) rfl ?_
  refine r_aload_n (μ := mX11_init) (pc := 73) dX11_init_73 rfl rfl rfl ?_
  refine r_newZ (μ := mX11_init) (pc := 74) (c0 := 9) (q0 := (RX9, TX9, 20)) (a := 8) (cb := 67) (sb := 1230) (sh2 := shC.take 9) dX11_init_74 rfl klX11_31 iaX9 inX9 rfl rfl rfl rfl ?_
  refine r_dup (μ := mX11_init) (pc := 77) dX11_init_77 rfl ?_
  refine r_aload_n (μ := mX11_init) (pc := 78) dX11_init_78 rfl rfl rfl ?_
  refine r_getR (μ := mX11_init) (pc := 79) dX11_init_79 fpX11_25 rfl rfl (by decide) rfl ?_
  refine iA1 (μ := mX11_init) (pc := 82) (μ2 := mX9_init) (cb := 56) (sb := 1053) (mc2 := 11) (ms2 := 177) dX11_init_82 rfl rfl lkX11_33 imX9_init mwX9_init (Nat.le_of_ble_eq_true rfl) (k_X9_init (d := d + 2) (b := 8) rfl rfl (by intro a ha; (try simp only [tnI, rdI, shI]); (repeat rw [upI_ne (by omega)])) (by intro a ha; (try simp only [tnR, wyR, rdR, shR]); (repeat rw [upR_ne (by omega)]))) (fun sh_82 mi_82 mr_82 h_82 => ?_)
  obtain ⟨rfl, rfl, rfl⟩ := h_82
  refine WP.sh (show _ = shC.take 20 from rfl) ?_
  refine r_putR (μ := mX11_init) (pc := 85) dX11_init_85 fwX11_36 rfl (by decide) rfl ?_
  refine r_aload_n (μ := mX11_init) (pc := 88) dX11_init_88 rfl rfl rfl ?_
  refine r_newZ (μ := mX11_init) (pc := 89) (c0 := 9) (q0 := (RX9, TX9, 20)) (a := 20) (cb := 55) (sb := 1033) (sh2 := shC.take 21) dX11_init_89 rfl klX11_31 iaX9 inX9 rfl rfl rfl rfl ?_
  refine r_dup (μ := mX11_init) (pc := 92) dX11_init_92 rfl ?_
  refine r_aload_n (μ := mX11_init) (pc := 93) dX11_init_93 rfl rfl rfl ?_
  refine r_getR (μ := mX11_init) (pc := 94) dX11_init_94 fpX11_25 rfl rfl (by decide) rfl ?_
  refine iA1 (μ := mX11_init) (pc := 97) (μ2 := mX9_init) (cb := 44) (sb := 856) (mc2 := 11) (ms2 := 177) dX11_init_97 rfl rfl lkX11_33 imX9_init mwX9_init (Nat.le_of_ble_eq_true rfl) (k_X9_init (d := d + 2) (b := 20) rfl rfl (by intro a ha; (try simp only [tnI, rdI, shI]); (repeat rw [upI_ne (by omega)])) (by intro a ha; (try simp only [tnR, wyR, rdR, shR]); (repeat rw [upR_ne (by omega)]))) (fun sh_97 mi_97 mr_97 h_97 => ?_)
  obtain ⟨rfl, rfl, rfl⟩ := h_97
  refine WP.sh (show _ = shC.take 32 from rfl) ?_
  refine r_putR (μ := mX11_init) (pc := 100) dX11_init_100 fwX11_40 rfl (by decide) rfl ?_
  refine r_aload_n (μ := mX11_init) (pc := 103) dX11_init_103 rfl rfl rfl ?_
  refine r_newZ (μ := mX11_init) (pc := 104) (c0 := 9) (q0 := (RX9, TX9, 20)) (a := 32) (cb := 43) (sb := 836) (sh2 := shC.take 33) dX11_init_104 rfl klX11_31 iaX9 inX9 rfl rfl rfl rfl ?_
  refine r_dup (μ := mX11_init) (pc := 107) dX11_init_107 rfl ?_
  refine r_aload_n (μ := mX11_init) (pc := 108) dX11_init_108 rfl rfl rfl ?_
  refine r_getR (μ := mX11_init) (pc := 109) dX11_init_109 fpX11_25 rfl rfl (by decide) rfl ?_
  refine iA1 (μ := mX11_init) (pc := 112) (μ2 := mX9_init) (cb := 32) (sb := 659) (mc2 := 11) (ms2 := 177) dX11_init_112 rfl rfl lkX11_33 imX9_init mwX9_init (Nat.le_of_ble_eq_true rfl) (k_X9_init (d := d + 2) (b := 32) rfl rfl (by intro a ha; (try simp only [tnI, rdI, shI]); (repeat rw [upI_ne (by omega)])) (by intro a ha; (try simp only [tnR, wyR, rdR, shR]); (repeat rw [upR_ne (by omega)]))) (fun sh_112 mi_112 mr_112 h_112 => ?_)
  obtain ⟨rfl, rfl, rfl⟩ := h_112
  refine WP.sh (show _ = shC.take 44 from rfl) ?_
  refine r_putR (μ := mX11_init) (pc := 115) dX11_init_115 fwX11_43 rfl (by decide) rfl ?_
  refine r_aload_n (μ := mX11_init) (pc := 118) dX11_init_118 rfl rfl rfl ?_
  refine r_iconst (μ := mX11_init) (pc := 119) (v := 0) dX11_init_119 ic_0 ?_
  refine r_putZ (μ := mX11_init) (pc := 120) dX11_init_120 fwX11_46 rfl (by decide) rfl rfl rfl ?_
  refine WP.mi (us rfl) ?_
  refine r_aload_n (μ := mX11_init) (pc := 123) dX11_init_123 rfl rfl rfl ?_
  refine r_newZ (μ := mX11_init) (pc := 124) (c0 := 10) (q0 := (RX10, TX10, 4)) (a := 44) (cb := 31) (sb := 655) (sh2 := shC.take 45) dX11_init_124 rfl klX11_50 iaX10 inX10 rfl rfl rfl rfl ?_
  refine r_dup (μ := mX11_init) (pc := 127) dX11_init_127 rfl ?_
  refine r_aload_n (μ := mX11_init) (pc := 128) dX11_init_128 rfl rfl rfl ?_
  refine r_getR (μ := mX11_init) (pc := 129) dX11_init_129 fpX11_36 rfl rfl (by decide) rfl ?_
  refine iA1 (μ := mX11_init) (pc := 132) (μ2 := mX10_init) (cb := 28) (sb := 629) (mc2 := 3) (ms2 := 26) dX11_init_132 rfl rfl lkX11_52 imX10_init mwX10_init (Nat.le_of_ble_eq_true rfl) (k_X10_init (d := d + 2) (b := 44) rfl rfl (by intro a ha; (try simp only [tnI, rdI, shI]); (repeat rw [upI_ne (by omega)])) (by intro a ha; (try simp only [tnR, wyR, rdR, shR]); (repeat rw [upR_ne (by omega)]))) (fun sh_132 mi_132 mr_132 h_132 => ?_)
  obtain ⟨rfl, rfl, rfl⟩ := h_132
  refine WP.sh (show _ = shC.take 48 from rfl) ?_
  refine r_putR (μ := mX11_init) (pc := 135) dX11_init_135 fwX11_55 rfl (by decide) rfl ?_
  refine r_aload_n (μ := mX11_init) (pc := 138) dX11_init_138 rfl rfl rfl ?_
  refine r_newZ (μ := mX11_init) (pc := 139) (c0 := 5) (q0 := (RX5, TX5, 14)) (a := 48) (cb := 27) (sb := 615) (sh2 := shC.take 49) dX11_init_139 rfl klX11_59 iaX5 inX5 rfl rfl rfl rfl ?_
  refine r_dup (μ := mX11_init) (pc := 142) dX11_init_142 rfl ?_
  refine iN0 (μ := mX11_init) (pc := 143) (μ2 := mX5_init) (cb := 24) (sb := 327) (mc2 := 3) (ms2 := 288) dX11_init_143 rfl rfl lkX11_61 imX5_init mwX5_init (Nat.le_of_ble_eq_true rfl) (k_X5_init (d := d + 2) (b := 48) rfl rfl (by intro a ha; (try simp only [tnI, rdI, shI]); (repeat rw [upI_ne (by omega)])) (by intro a ha; (try simp only [tnR, wyR, rdR, shR]); (repeat rw [upR_ne (by omega)]))) (fun sh_143 mi_143 mr_143 h_143 => ?_)
  obtain ⟨rfl, rfl, rfl⟩ := h_143
  refine WP.sh (show _ = shC.take 52 from rfl) ?_
  refine r_putR (μ := mX11_init) (pc := 146) dX11_init_146 fwX11_62 rfl (by decide) rfl ?_
  refine r_aload_n (μ := mX11_init) (pc := 149) dX11_init_149 rfl rfl rfl ?_
  refine r_iconst (μ := mX11_init) (pc := 150) (v := 4) dX11_init_150 ic_4 ?_
  refine r_newqZ (μ := mX11_init) (pc := 151) (t := 1) (N := 4) (a := 52) (cb := 23) (sb := 323) (sh2 := shC.take 53) dX11_init_151 (by decide) klX11_66 rfl (by decide) rfl rfl rfl rfl ?_
  refine r_dup (μ := mX11_init) (pc := 154) dX11_init_154 rfl ?_
  refine r_iconst (μ := mX11_init) (pc := 155) (v := 0) dX11_init_155 ic_0 ?_
  refine r_newZ (μ := mX11_init) (pc := 156) (c0 := 7) (q0 := (RX7, TX7, 3)) (a := 53) (cb := 22) (sb := 320) (sh2 := shC.take 54) dX11_init_156 rfl klX11_66 iaX7 inX7 rfl rfl rfl rfl ?_
  refine r_dup (μ := mX11_init) (pc := 159) dX11_init_159 rfl ?_
  refine iN0 (μ := mX11_init) (pc := 160) (μ2 := mX7_init) (cb := 21) (sb := 296) (mc2 := 1) (ms2 := 24) dX11_init_160 rfl rfl lkX11_68 imX7_init mwX7_init (Nat.le_of_ble_eq_true rfl) (k_X7_init (d := d + 2) (b := 53) rfl rfl (by intro a ha; (try simp only [tnI, rdI, shI]); (repeat rw [upI_ne (by omega)])) (by intro a ha; (try simp only [tnR, wyR, rdR, shR]); (repeat rw [upR_ne (by omega)]))) (fun sh_160 mi_160 mr_160 h_160 => ?_)
  obtain ⟨rfl, rfl, rfl⟩ := h_160
  refine WP.sh (show _ = shC.take 55 from rfl) ?_
  refine r_aastore (μ := mX11_init) (pc := 163) (t := 1) (j := 0) (c0 := 7) (q0 := (RX7, TX7, 3)) dX11_init_163 (by decide) (show _ = some (2, 4) from rfl) rfl (by decide) (by decide) rfl rfl (Or.inl rfl) ?_
  refine r_dup (μ := mX11_init) (pc := 164) dX11_init_164 rfl ?_
  refine r_iconst (μ := mX11_init) (pc := 165) (v := 1) dX11_init_165 ic_1 ?_
  refine r_newZ (μ := mX11_init) (pc := 166) (c0 := 7) (q0 := (RX7, TX7, 3)) (a := 55) (cb := 20) (sb := 293) (sh2 := shC.take 56) dX11_init_166 rfl klX11_66 iaX7 inX7 rfl rfl rfl rfl ?_
  refine r_dup (μ := mX11_init) (pc := 169) dX11_init_169 rfl ?_
  refine iN0 (μ := mX11_init) (pc := 170) (μ2 := mX7_init) (cb := 19) (sb := 269) (mc2 := 1) (ms2 := 24) dX11_init_170 rfl rfl lkX11_68 imX7_init mwX7_init (Nat.le_of_ble_eq_true rfl) (k_X7_init (d := d + 2) (b := 55) rfl rfl (by intro a ha; (try simp only [tnI, rdI, shI]); (repeat rw [upI_ne (by omega)])) (by intro a ha; (try simp only [tnR, wyR, rdR, shR]); (repeat rw [upR_ne (by omega)]))) (fun sh_170 mi_170 mr_170 h_170 => ?_)
  obtain ⟨rfl, rfl, rfl⟩ := h_170
  refine WP.sh (show _ = shC.take 57 from rfl) ?_
  refine r_aastore (μ := mX11_init) (pc := 173) (t := 1) (j := 1) (c0 := 7) (q0 := (RX7, TX7, 3)) dX11_init_173 (by decide) (show _ = some (2, 4) from rfl) rfl (by decide) (by decide) rfl rfl (Or.inl rfl) ?_
  refine r_dup (μ := mX11_init) (pc := 174) dX11_init_174 rfl ?_
  refine r_iconst (μ := mX11_init) (pc := 175) (v := 2) dX11_init_175 ic_2 ?_
  refine r_newZ (μ := mX11_init) (pc := 176) (c0 := 7) (q0 := (RX7, TX7, 3)) (a := 57) (cb := 18) (sb := 266) (sh2 := shC.take 58) dX11_init_176 rfl klX11_66 iaX7 inX7 rfl rfl rfl rfl ?_
  refine r_dup (μ := mX11_init) (pc := 179) dX11_init_179 rfl ?_
  refine iN0 (μ := mX11_init) (pc := 180) (μ2 := mX7_init) (cb := 17) (sb := 242) (mc2 := 1) (ms2 := 24) dX11_init_180 rfl rfl lkX11_68 imX7_init mwX7_init (Nat.le_of_ble_eq_true rfl) (k_X7_init (d := d + 2) (b := 57) rfl rfl (by intro a ha; (try simp only [tnI, rdI, shI]); (repeat rw [upI_ne (by omega)])) (by intro a ha; (try simp only [tnR, wyR, rdR, shR]); (repeat rw [upR_ne (by omega)]))) (fun sh_180 mi_180 mr_180 h_180 => ?_)
  obtain ⟨rfl, rfl, rfl⟩ := h_180
  refine WP.sh (show _ = shC.take 59 from rfl) ?_
  refine r_aastore (μ := mX11_init) (pc := 183) (t := 1) (j := 2) (c0 := 7) (q0 := (RX7, TX7, 3)) dX11_init_183 (by decide) (show _ = some (2, 4) from rfl) rfl (by decide) (by decide) rfl rfl (Or.inl rfl) ?_
  refine r_dup (μ := mX11_init) (pc := 184) dX11_init_184 rfl ?_
  refine r_iconst (μ := mX11_init) (pc := 185) (v := 3) dX11_init_185 ic_3 ?_
  refine r_newZ (μ := mX11_init) (pc := 186) (c0 := 7) (q0 := (RX7, TX7, 3)) (a := 59) (cb := 16) (sb := 239) (sh2 := shC.take 60) dX11_init_186 rfl klX11_66 iaX7 inX7 rfl rfl rfl rfl ?_
  refine r_dup (μ := mX11_init) (pc := 189) dX11_init_189 rfl ?_
  refine iN0 (μ := mX11_init) (pc := 190) (μ2 := mX7_init) (cb := 15) (sb := 215) (mc2 := 1) (ms2 := 24) dX11_init_190 rfl rfl lkX11_68 imX7_init mwX7_init (Nat.le_of_ble_eq_true rfl) (k_X7_init (d := d + 2) (b := 59) rfl rfl (by intro a ha; (try simp only [tnI, rdI, shI]); (repeat rw [upI_ne (by omega)])) (by intro a ha; (try simp only [tnR, wyR, rdR, shR]); (repeat rw [upR_ne (by omega)]))) (fun sh_190 mi_190 mr_190 h_190 => ?_)
  obtain ⟨rfl, rfl, rfl⟩ := h_190
  refine WP.sh (show _ = shC.take 61 from rfl) ?_
  refine r_aastore (μ := mX11_init) (pc := 193) (t := 1) (j := 3) (c0 := 7) (q0 := (RX7, TX7, 3)) dX11_init_193 (by decide) (show _ = some (2, 4) from rfl) rfl (by decide) (by decide) rfl rfl (Or.inl rfl) ?_
  refine r_putR (μ := mX11_init) (pc := 194) dX11_init_194 fwX11_69 rfl (by decide) rfl ?_
  refine r_aload_n (μ := mX11_init) (pc := 197) dX11_init_197 rfl rfl rfl ?_
  refine r_iconst (μ := mX11_init) (pc := 198) (v := 5) dX11_init_198 ic_5 ?_
  refine r_newiZ (μ := mX11_init) (pc := 199) (N := 5) (a := 61) (cb := 14) (sb := 210) (sh2 := shC.take 62) dX11_init_199 rfl (by decide) rfl rfl rfl rfl ?_
  refine r_putR (μ := mX11_init) (pc := 201) dX11_init_201 fwX11_73 rfl (by decide) rfl ?_
  refine r_aload_n (μ := mX11_init) (pc := 204) dX11_init_204 rfl rfl rfl ?_
  refine r_iconst (μ := mX11_init) (pc := 205) (v := 5) dX11_init_205 ic_5 ?_
  refine r_newiZ (μ := mX11_init) (pc := 206) (N := 5) (a := 62) (cb := 13) (sb := 205) (sh2 := shC.take 63) dX11_init_206 rfl (by decide) rfl rfl rfl rfl ?_
  refine r_putR (μ := mX11_init) (pc := 208) dX11_init_208 fwX11_77 rfl (by decide) rfl ?_
  refine r_aload_n (μ := mX11_init) (pc := 211) dX11_init_211 rfl rfl rfl ?_
  refine r_iconst (μ := mX11_init) (pc := 212) (v := 5) dX11_init_212 ic_5 ?_
  refine r_newiZ (μ := mX11_init) (pc := 213) (N := 5) (a := 63) (cb := 12) (sb := 200) (sh2 := shC.take 64) dX11_init_213 rfl (by decide) rfl rfl rfl rfl ?_
  refine r_putR (μ := mX11_init) (pc := 215) dX11_init_215 fwX11_80 rfl (by decide) rfl ?_
  refine r_aload_n (μ := mX11_init) (pc := 218) dX11_init_218 rfl rfl rfl ?_
  refine r_iconst (μ := mX11_init) (pc := 219) (v := 5) dX11_init_219 ic_5 ?_
  refine r_newqZ (μ := mX11_init) (pc := 220) (t := 1) (N := 5) (a := 64) (cb := 11) (sb := 195) (sh2 := shC.take 65) dX11_init_220 (by decide) klX11_66 rfl (by decide) rfl rfl rfl rfl ?_
  refine r_dup (μ := mX11_init) (pc := 223) dX11_init_223 rfl ?_
  refine r_iconst (μ := mX11_init) (pc := 224) (v := 0) dX11_init_224 ic_0 ?_
  refine r_newZ (μ := mX11_init) (pc := 225) (c0 := 7) (q0 := (RX7, TX7, 3)) (a := 65) (cb := 10) (sb := 192) (sh2 := shC.take 66) dX11_init_225 rfl klX11_66 iaX7 inX7 rfl rfl rfl rfl ?_
  refine r_dup (μ := mX11_init) (pc := 228) dX11_init_228 rfl ?_
  refine iN0 (μ := mX11_init) (pc := 229) (μ2 := mX7_init) (cb := 9) (sb := 168) (mc2 := 1) (ms2 := 24) dX11_init_229 rfl rfl lkX11_68 imX7_init mwX7_init (Nat.le_of_ble_eq_true rfl) (k_X7_init (d := d + 2) (b := 65) rfl rfl (by intro a ha; (try simp only [tnI, rdI, shI]); (repeat rw [upI_ne (by omega)])) (by intro a ha; (try simp only [tnR, wyR, rdR, shR]); (repeat rw [upR_ne (by omega)]))) (fun sh_229 mi_229 mr_229 h_229 => ?_)
  obtain ⟨rfl, rfl, rfl⟩ := h_229
  refine WP.sh (show _ = shC.take 67 from rfl) ?_
  refine r_aastore (μ := mX11_init) (pc := 232) (t := 1) (j := 0) (c0 := 7) (q0 := (RX7, TX7, 3)) dX11_init_232 (by decide) (show _ = some (2, 5) from rfl) rfl (by decide) (by decide) rfl rfl (Or.inl rfl) ?_
  refine r_dup (μ := mX11_init) (pc := 233) dX11_init_233 rfl ?_
  refine r_iconst (μ := mX11_init) (pc := 234) (v := 1) dX11_init_234 ic_1 ?_
  refine r_newZ (μ := mX11_init) (pc := 235) (c0 := 7) (q0 := (RX7, TX7, 3)) (a := 67) (cb := 8) (sb := 165) (sh2 := shC.take 68) dX11_init_235 rfl klX11_66 iaX7 inX7 rfl rfl rfl rfl ?_
  refine r_dup (μ := mX11_init) (pc := 238) dX11_init_238 rfl ?_
  refine iN0 (μ := mX11_init) (pc := 239) (μ2 := mX7_init) (cb := 7) (sb := 141) (mc2 := 1) (ms2 := 24) dX11_init_239 rfl rfl lkX11_68 imX7_init mwX7_init (Nat.le_of_ble_eq_true rfl) (k_X7_init (d := d + 2) (b := 67) rfl rfl (by intro a ha; (try simp only [tnI, rdI, shI]); (repeat rw [upI_ne (by omega)])) (by intro a ha; (try simp only [tnR, wyR, rdR, shR]); (repeat rw [upR_ne (by omega)]))) (fun sh_239 mi_239 mr_239 h_239 => ?_)
  obtain ⟨rfl, rfl, rfl⟩ := h_239
  refine WP.sh (show _ = shC.take 69 from rfl) ?_
  refine r_aastore (μ := mX11_init) (pc := 242) (t := 1) (j := 1) (c0 := 7) (q0 := (RX7, TX7, 3)) dX11_init_242 (by decide) (show _ = some (2, 5) from rfl) rfl (by decide) (by decide) rfl rfl (Or.inl rfl) ?_
  refine r_dup (μ := mX11_init) (pc := 243) dX11_init_243 rfl ?_
  refine r_iconst (μ := mX11_init) (pc := 244) (v := 2) dX11_init_244 ic_2 ?_
  refine r_newZ (μ := mX11_init) (pc := 245) (c0 := 7) (q0 := (RX7, TX7, 3)) (a := 69) (cb := 6) (sb := 138) (sh2 := shC.take 70) dX11_init_245 rfl klX11_66 iaX7 inX7 rfl rfl rfl rfl ?_
  refine r_dup (μ := mX11_init) (pc := 248) dX11_init_248 rfl ?_
  refine iN0 (μ := mX11_init) (pc := 249) (μ2 := mX7_init) (cb := 5) (sb := 114) (mc2 := 1) (ms2 := 24) dX11_init_249 rfl rfl lkX11_68 imX7_init mwX7_init (Nat.le_of_ble_eq_true rfl) (k_X7_init (d := d + 2) (b := 69) rfl rfl (by intro a ha; (try simp only [tnI, rdI, shI]); (repeat rw [upI_ne (by omega)])) (by intro a ha; (try simp only [tnR, wyR, rdR, shR]); (repeat rw [upR_ne (by omega)]))) (fun sh_249 mi_249 mr_249 h_249 => ?_)
  obtain ⟨rfl, rfl, rfl⟩ := h_249
  refine WP.sh (show _ = shC.take 71 from rfl) ?_
  refine r_aastore (μ := mX11_init) (pc := 252) (t := 1) (j := 2) (c0 := 7) (q0 := (RX7, TX7, 3)) dX11_init_252 (by decide) (show _ = some (2, 5) from rfl) rfl (by decide) (by decide) rfl rfl (Or.inl rfl) ?_
  refine r_dup (μ := mX11_init) (pc := 253) dX11_init_253 rfl ?_
  refine r_iconst (μ := mX11_init) (pc := 254) (v := 3) dX11_init_254 ic_3 ?_
  refine r_newZ (μ := mX11_init) (pc := 255) (c0 := 7) (q0 := (RX7, TX7, 3)) (a := 71) (cb := 4) (sb := 111) (sh2 := shC.take 72) dX11_init_255 rfl klX11_66 iaX7 inX7 rfl rfl rfl rfl ?_
  refine r_dup (μ := mX11_init) (pc := 258) dX11_init_258 rfl ?_
  refine iN0 (μ := mX11_init) (pc := 259) (μ2 := mX7_init) (cb := 3) (sb := 87) (mc2 := 1) (ms2 := 24) dX11_init_259 rfl rfl lkX11_68 imX7_init mwX7_init (Nat.le_of_ble_eq_true rfl) (k_X7_init (d := d + 2) (b := 71) rfl rfl (by intro a ha; (try simp only [tnI, rdI, shI]); (repeat rw [upI_ne (by omega)])) (by intro a ha; (try simp only [tnR, wyR, rdR, shR]); (repeat rw [upR_ne (by omega)]))) (fun sh_259 mi_259 mr_259 h_259 => ?_)
  obtain ⟨rfl, rfl, rfl⟩ := h_259
  refine WP.sh (show _ = shC.take 73 from rfl) ?_
  refine r_aastore (μ := mX11_init) (pc := 262) (t := 1) (j := 3) (c0 := 7) (q0 := (RX7, TX7, 3)) dX11_init_262 (by decide) (show _ = some (2, 5) from rfl) rfl (by decide) (by decide) rfl rfl (Or.inl rfl) ?_
  refine r_dup (μ := mX11_init) (pc := 263) dX11_init_263 rfl ?_
  refine r_iconst (μ := mX11_init) (pc := 264) (v := 4) dX11_init_264 ic_4 ?_
  refine r_newZ (μ := mX11_init) (pc := 265) (c0 := 7) (q0 := (RX7, TX7, 3)) (a := 73) (cb := 2) (sb := 84) (sh2 := shC.take 74) dX11_init_265 rfl klX11_66 iaX7 inX7 rfl rfl rfl rfl ?_
  refine r_dup (μ := mX11_init) (pc := 268) dX11_init_268 rfl ?_
  refine iN0 (μ := mX11_init) (pc := 269) (μ2 := mX7_init) (cb := 1) (sb := 60) (mc2 := 1) (ms2 := 24) dX11_init_269 rfl rfl lkX11_68 imX7_init mwX7_init (Nat.le_of_ble_eq_true rfl) (k_X7_init (d := d + 2) (b := 73) rfl rfl (by intro a ha; (try simp only [tnI, rdI, shI]); (repeat rw [upI_ne (by omega)])) (by intro a ha; (try simp only [tnR, wyR, rdR, shR]); (repeat rw [upR_ne (by omega)]))) (fun sh_269 mi_269 mr_269 h_269 => ?_)
  obtain ⟨rfl, rfl, rfl⟩ := h_269
  refine WP.sh (show _ = shC.take 75 from rfl) ?_
  refine r_aastore (μ := mX11_init) (pc := 272) (t := 1) (j := 4) (c0 := 7) (q0 := (RX7, TX7, 3)) dX11_init_272 (by decide) (show _ = some (2, 5) from rfl) rfl (by decide) (by decide) rfl rfl (Or.inl rfl) ?_
  refine r_putR (μ := mX11_init) (pc := 273) dX11_init_273 fwX11_83 rfl (by decide) rfl ?_
  refine r_aload_n (μ := mX11_init) (pc := 276) dX11_init_276 rfl rfl rfl ?_
  refine r_bipush (μ := mX11_init) (pc := 277) (v := 60) dX11_init_277 bp_60 ?_
  refine r_newiZ (μ := mX11_init) (pc := 279) (N := 60) (a := 75) (cb := 0) (sb := 0) (sh2 := shC.take 76) dX11_init_279 rfl (by decide) rfl rfl rfl rfl ?_
  refine r_putR (μ := mX11_init) (pc := 281) dX11_init_281 fwX11_86 rfl (by decide) rfl ?_
  refine r_aload_n (μ := mX11_init) (pc := 284) dX11_init_284 rfl rfl rfl ?_
  refine r_iconst (μ := mX11_init) (pc := 285) (v := 0) dX11_init_285 ic_0 ?_
  refine r_putI (μ := mX11_init) (pc := 286) dX11_init_286 fwX11_89 rfl (by decide) rfl ?_
  refine WP.mi (us rfl) ?_
  exact r_vret (μ := mX11_init) (pc := 289) dX11_init_289 rfl ⟨rfl, rfl, rfl, cb_of (by decide +kernel), fun b hb t => by rcases hb with rfl | rfl | rfl <;> rfl, by (unfold tnR wyR rdR shR); (repeat (first | refine rbk_up ?_ (by decide) | exact rbk_0))⟩

