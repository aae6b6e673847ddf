theorem sh_s {sh : List Sh} (hF : SHC sh) {k : Nat} (hk : k < 4) : sh[53 + 2 * k]? = some (7 + 4, 3) ∧ sh[54 + 2 * k]? = some (0, 24) := by
  match k, hk with
  | 0, _ => exact ⟨hF _ _ rfl, hF _ _ rfl⟩
  | 1, _ => exact ⟨hF _ _ rfl, hF _ _ rfl⟩
  | 2, _ => exact ⟨hF _ _ rfl, hF _ _ rfl⟩
  | 3, _ => exact ⟨hF _ _ rfl, hF _ _ rfl⟩
theorem cr_s {mr : MR} (hB : CB mr) {k : Nat} (hk : k < 4) : mr 52 k = some (53 + 2 * k) ∧ mr (53 + 2 * k) 2 = some (54 + 2 * k) := by
  match k, hk with
  | 0, _ => exact ⟨hB _ _ _ rfl, hB _ _ _ rfl⟩
  | 1, _ => exact ⟨hB _ _ _ rfl, hB _ _ _ rfl⟩
  | 2, _ => exact ⟨hB _ _ _ rfl, hB _ _ _ rfl⟩
  | 3, _ => exact ⟨hB _ _ _ rfl, hB _ _ _ rfl⟩
theorem sh_u {sh : List Sh} (hF : SHC sh) {k : Nat} (hk : k < 5) : sh[65 + 2 * k]? = some (7 + 4, 3) ∧ sh[66 + 2 * k]? = some (0, 24) := by
  match k, hk with
  | 0, _ => exact ⟨hF _ _ rfl, hF _ _ rfl⟩
  | 1, _ => exact ⟨hF _ _ rfl, hF _ _ rfl⟩
  | 2, _ => exact ⟨hF _ _ rfl, hF _ _ rfl⟩
  | 3, _ => exact ⟨hF _ _ rfl, hF _ _ rfl⟩
  | 4, _ => exact ⟨hF _ _ rfl, hF _ _ rfl⟩
theorem cr_u {mr : MR} (hB : CB mr) {k : Nat} (hk : k < 5) : mr 64 k = some (65 + 2 * k) ∧ mr (65 + 2 * k) 2 = some (66 + 2 * k) := by
  match k, hk with
  | 0, _ => exact ⟨hB _ _ _ rfl, hB _ _ _ rfl⟩
  | 1, _ => exact ⟨hB _ _ _ rfl, hB _ _ _ rfl⟩
  | 2, _ => exact ⟨hB _ _ _ rfl, hB _ _ _ rfl⟩
  | 3, _ => exact ⟨hB _ _ _ rfl, hB _ _ _ rfl⟩
  | 4, _ => exact ⟨hB _ _ _ rfl, hB _ _ _ rfl⟩
theorem i2s_sh (v : Int32) : v.toInt16.toInt32 = v <<< ((16 : Int32) &&& 31) >>> ((16 : Int32) &&& 31) := by
  refine b_ext (fun i hi => ?_)
  have e1 := b_sshr 16 (by decide) (v <<< ((16 : Int32) &&& 31)) hi
  have e2 : ∀ j, j < 32 → bt (v <<< ((16 : Int32) &&& 31)) j = (decide (16 ≤ j) && bt v (j - 16)) := fun j hj => b_shl 16 (by decide) v hj
  have e3 : bt (v <<< ((16 : Int32) &&& 31) >>> ((16 : Int32) &&& 31)) i = if 16 + i < 32 then bt (v <<< ((16 : Int32) &&& 31)) (16 + i) else bt (v <<< ((16 : Int32) &&& 31)) 31 := e1
  rw [e3, e2 31 (by decide)]
  unfold bt
  rw [Int16.toBitVec_toInt32, Int32.toBitVec_toInt16, BitVec.getLsbD_signExtend, decide_eq_true hi, Bool.true_and]
  by_cases h : i < 16
  · rw [if_pos h, if_pos (by omega)]
    have e4 := e2 (16 + i) (by omega)
    unfold bt at e4
    rw [e4, decide_eq_true (by omega), Bool.true_and, show 16 + i - 16 = i by omega]
    rw [BitVec.getLsbD_signExtend, decide_eq_true h, Bool.true_and, if_pos hi]
  · rw [if_neg h, if_neg (by omega), BitVec.msb_eq_getLsbD_last, BitVec.getLsbD_signExtend]
    simp

theorem k_become {d : Nat} {sh : List Sh} {mi : MI} {mr : MR} {sa pa : Nat} (hsa : sh[sa]? = some (7 + 4, 3)) (hpa : sh[pa]? = some (0, 24)) (hrp : mr sa 2 = some pa) {w v : Int32} : CP (d + 1) mX7_become [.ref sa, .int w, .int v] sh mi mr 0 0 (PV sh mr (fun mi2 => mi2 = flI (upI (upI mi sa 0 w) sa 1 v) pa 24 0)) := by
  refine CP.of (L := [_, _, _]) (by decide) rfl rfl (Nat.le_of_ble_eq_true rfl) ?_
  refine r_aload_n (μ := mX7_become) (pc := 0) dX7_become_0 rfl rfl rfl ?_
  refine r_iload_n (μ := mX7_become) (pc := 1) dX7_become_1 rfl rfl ?_
  refine r_putI (μ := mX7_become) (pc := 2) dX7_become_2 fwX7_9 hsa (by decide) rfl ?_
  refine r_aload_n (μ := mX7_become) (pc := 5) dX7_become_5 rfl rfl rfl ?_
  refine r_iload_n (μ := mX7_become) (pc := 6) dX7_become_6 rfl rfl ?_
  refine r_putI (μ := mX7_become) (pc := 7) dX7_become_7 fwX7_15 hsa (by decide) rfl ?_
  refine r_aload_n (μ := mX7_become) (pc := 10) dX7_become_10 rfl rfl rfl ?_
  refine r_getR (μ := mX7_become) (pc := 11) dX7_become_11 fpX7_18 rfl hsa (by decide) hrp ?_
  refine r_iconst (μ := mX7_become) (pc := 14) (v := 0) dX7_become_14 ic_0 ?_
  refine sV2 (μ := mX7_become) (pc := 15) (μ2 := mJ7_fill_53178) dX7_become_15 lkX7_22 stJ7_fill_53178 mwJ7_fill_53178 (Nat.le_of_ble_eq_true rfl) (k_fill hpa (by decide)) (fun mi_15 h_15 => ?_)
  subst h_15
  exact r_vret (μ := mX7_become) (pc := 18) dX7_become_18 rfl (PV_i rfl)

theorem k_shBecomeAs {d : Nat} {sh : List Sh} {mi : MI} {mr : MR} {sa pa : Nat} (hsa : sh[sa]? = some (7 + 4, 3)) (hpa : sh[pa]? = some (0, 24)) (hrp : mr sa 2 = some pa) {sb pb : Nat} (hsb : sh[sb]? = some (7 + 4, 3)) (hpb : sh[pb]? = some (0, 24)) (hrb : mr sb 2 = some pb) (hne : sb ≠ sa ∧ pb ≠ sa) : CP d mX7_becomeAs [.ref sa, .ref sb] sh mi mr 0 0 (PV sh mr (fun mi2 => mi2 = cpI (upI (upI mi sa 0 (mi sb 0)) sa 1 (mi sb 1)) pb pa 0 0 24)) := by
  refine CP.of (L := [_, _]) (by decide) rfl rfl (Nat.le_of_ble_eq_true rfl) ?_
  refine r_aload_n (μ := mX7_becomeAs) (pc := 0) dX7_becomeAs_0 rfl rfl rfl ?_
  refine r_aload_n (μ := mX7_becomeAs) (pc := 1) dX7_becomeAs_1 rfl rfl rfl ?_
  refine r_getI (μ := mX7_becomeAs) (pc := 2) dX7_becomeAs_2 fpX7_9 rfl hsb (by decide) ?_
  refine r_putI (μ := mX7_becomeAs) (pc := 5) dX7_becomeAs_5 fwX7_9 hsa (by decide) rfl ?_
  refine r_aload_n (μ := mX7_becomeAs) (pc := 8) dX7_becomeAs_8 rfl rfl rfl ?_
  refine r_aload_n (μ := mX7_becomeAs) (pc := 9) dX7_becomeAs_9 rfl rfl rfl ?_
  refine r_getI (μ := mX7_becomeAs) (pc := 10) dX7_becomeAs_10 fpX7_15 rfl hsb (by decide) ?_
  rw [up_oth hne.1]
  refine r_putI (μ := mX7_becomeAs) (pc := 13) dX7_becomeAs_13 fwX7_15 hsa (by decide) rfl ?_
  refine r_aload_n (μ := mX7_becomeAs) (pc := 16) dX7_becomeAs_16 rfl rfl rfl ?_
  refine r_getR (μ := mX7_becomeAs) (pc := 17) dX7_becomeAs_17 fpX7_18 rfl hsb (by decide) hrb ?_
  refine r_iconst (μ := mX7_becomeAs) (pc := 20) (v := 0) dX7_becomeAs_20 ic_0 ?_
  refine r_aload_n (μ := mX7_becomeAs) (pc := 21) dX7_becomeAs_21 rfl rfl rfl ?_
  refine r_getR (μ := mX7_becomeAs) (pc := 22) dX7_becomeAs_22 fpX7_18 rfl hsa (by decide) hrp ?_
  refine r_iconst (μ := mX7_becomeAs) (pc := 25) (v := 0) dX7_becomeAs_25 ic_0 ?_
  refine r_bipush (μ := mX7_becomeAs) (pc := 26) (v := 24) dX7_becomeAs_26 bp_24 ?_
  refine r_copy (μ := mX7_becomeAs) (pc := 28) (sp := 0) (dp := 0) (n := 24) dX7_becomeAs_28 lkX7_28 hpb hpa rfl rfl rfl (by decide) (by decide) (by decide) (by decide) (Nat.le_of_ble_eq_true rfl) ?_
  exact r_vret (μ := mX7_becomeAs) (pc := 31) dX7_becomeAs_31 rfl (PV_i rfl)

theorem k_hasPlaces {d : Nat} {sh : List Sh} {mi : MI} {mr : MR} {sa z : Nat} (hsa : sh[sa]? = some (7 + 4, 3)) (hz : mi sa 1 = nI z) (hz24 : z ≤ 24) {x c : Int32} : CP (d) mX7_hasPlaces [.ref sa, .int x, .int c] sh mi mr 0 0 (PI (b2i (ixOK x c z)) sh mi mr) := by
  have hz0 := nI_toInt (n := z) (by omega)
  have h0 : (0 : Int32).toInt = 0 := rfl
  have hcl := Int32.toInt_lt c; have hcg := Int32.le_toInt c
  refine CP.of (L := [_, _, _]) (by decide) rfl rfl (Nat.le_of_ble_eq_true rfl) ?_
  refine r_iload_n (μ := mX7_hasPlaces) (pc := 0) dX7_hasPlaces_0 rfl rfl ?_
  refine r_if_lt (μ := mX7_hasPlaces) (pc := 1) (tgt := 22) dX7_hasPlaces_1 (by decide) (fun h_1 => ?_) (fun h_1 => ?_)
  · have hq : ixOK x c z = false := by have := Int32.lt_iff_toInt_lt.mp h_1; unfold ixOK; exact decide_eq_false (by omega)
    refine r_iconst (μ := mX7_hasPlaces) (pc := 22) (v := 0) dX7_hasPlaces_22 ic_0 ?_
    exact r_iret (μ := mX7_hasPlaces) (pc := 23) dX7_hasPlaces_23 rfl rfl (PI_i (by rw [hq]; rfl))
  · refine r_iload_n (μ := mX7_hasPlaces) (pc := 4) dX7_hasPlaces_4 rfl rfl ?_
    refine r_if_lt (μ := mX7_hasPlaces) (pc := 5) (tgt := 22) dX7_hasPlaces_5 (by decide) (fun h_5 => ?_) (fun h_5 => ?_)
    · have hq : ixOK x c z = false := by have := Int32.lt_iff_toInt_lt.mp h_5; unfold ixOK; exact decide_eq_false (by omega)
      refine r_iconst (μ := mX7_hasPlaces) (pc := 22) (v := 0) dX7_hasPlaces_22 ic_0 ?_
      exact r_iret (μ := mX7_hasPlaces) (pc := 23) dX7_hasPlaces_23 rfl rfl (PI_i (by rw [hq]; rfl))
    · refine r_iload_n (μ := mX7_hasPlaces) (pc := 8) dX7_hasPlaces_8 rfl rfl ?_
      refine r_aload_n (μ := mX7_hasPlaces) (pc := 9) dX7_hasPlaces_9 rfl rfl rfl ?_
      refine r_getI (μ := mX7_hasPlaces) (pc := 10) dX7_hasPlaces_10 fpX7_15 rfl hsa (by decide) ?_
      rw [hz]
      refine r_iload_n (μ := mX7_hasPlaces) (pc := 13) dX7_hasPlaces_13 rfl rfl ?_
      refine r_isub (μ := mX7_hasPlaces) (pc := 14) dX7_hasPlaces_14 ?_
      refine r_icmp_gt (μ := mX7_hasPlaces) (pc := 15) (tgt := 22) dX7_hasPlaces_15 (by decide) (fun h_15 => ?_) (fun h_15 => ?_)
      · have hq : ixOK x c z = false := by have h1 := Int32.lt_iff_toInt_lt.mp h_15; have h2 := mt Int32.lt_iff_toInt_lt.mpr h_5; rw [Int32.toInt_sub, hz0, Int.bmod_eq_of_le (by omega) (by omega)] at h1; unfold ixOK; exact decide_eq_false (by omega)
        refine r_iconst (μ := mX7_hasPlaces) (pc := 22) (v := 0) dX7_hasPlaces_22 ic_0 ?_
        exact r_iret (μ := mX7_hasPlaces) (pc := 23) dX7_hasPlaces_23 rfl rfl (PI_i (by rw [hq]; rfl))
      · have hq : ixOK x c z = true := by have h1 := mt Int32.lt_iff_toInt_lt.mpr h_15; have h2 := mt Int32.lt_iff_toInt_lt.mpr h_5; have h3 := mt Int32.lt_iff_toInt_lt.mpr h_1; rw [Int32.toInt_sub, hz0, Int.bmod_eq_of_le (by omega) (by omega)] at h1; unfold ixOK; exact decide_eq_true (by omega)
        refine r_iconst (μ := mX7_hasPlaces) (pc := 18) (v := 1) dX7_hasPlaces_18 ic_1 ?_
        refine r_goto (μ := mX7_hasPlaces) (pc := 19) (tgt := 23) dX7_hasPlaces_19 (by decide) ?_
        exact r_iret (μ := mX7_hasPlaces) (pc := 23) dX7_hasPlaces_23 rfl rfl (PI_i (by rw [hq]; rfl))

theorem k_sheet_bad {d : Nat} {sh : List Sh} {mi : MI} {mr : MR} (hF : SHC sh) (hB : CB mr) {x w v : Int32} (hb : ¬ (inB x 0 3 = true ∧ inB w (-1) 1 = true ∧ (w < 0 ∨ v ≤ 24))) : CP (d + 1) mX11_sheet [.ref 0, .int x, .int w, .int v] sh mi mr 0 0 (PI (BADc) sh mi mr) := by
  refine CP.of (L := [_, _, _, _, _]) (by decide) rfl rfl (Nat.le_of_ble_eq_true rfl) ?_
  refine r_iload_n (μ := mX11_sheet) (pc := 0) dX11_sheet_0 rfl rfl ?_
  refine r_iconst (μ := mX11_sheet) (pc := 1) (v := 4) dX11_sheet_1 ic_4 ?_
  refine sP2 (μ := mX11_sheet) (pc := 2) (μ2 := mX11_within) dX11_sheet_2 lkX11_93 stX11_within mwX11_within (Nat.le_of_ble_eq_true rfl) (k_within (n := 4) rfl (by decide)) ?_
  rw [inR_B _ 3]
  refine r_if_eq (μ := mX11_sheet) (pc := 5) (tgt := 18) dX11_sheet_5 (by decide) (fun h_5 => ?_) (fun h_5 => ?_)
  · have h_5 := b2i_0 h_5
    refine r_ldc (μ := mX11_sheet) (pc := 18) dX11_sheet_18 ctX11_97 ?_
    exact r_iret (μ := mX11_sheet) (pc := 20) dX11_sheet_20 rfl rfl (PI_i rfl)
  · have h_5 := b2i_1 h_5
    refine r_iload_n (μ := mX11_sheet) (pc := 8) dX11_sheet_8 rfl rfl ?_
    refine r_iconst (μ := mX11_sheet) (pc := 9) (v := -1) dX11_sheet_9 ic_m1 ?_
    refine r_icmp_lt (μ := mX11_sheet) (pc := 10) (tgt := 18) dX11_sheet_10 (by decide) (fun h_10 => ?_) (fun h_10 => ?_)
    · refine r_ldc (μ := mX11_sheet) (pc := 18) dX11_sheet_18 ctX11_97 ?_
      exact r_iret (μ := mX11_sheet) (pc := 20) dX11_sheet_20 rfl rfl (PI_i rfl)
    · refine r_iload_n (μ := mX11_sheet) (pc := 13) dX11_sheet_13 rfl rfl ?_
      refine r_iconst (μ := mX11_sheet) (pc := 14) (v := 1) dX11_sheet_14 ic_1 ?_
      refine r_icmp_le (μ := mX11_sheet) (pc := 15) (tgt := 21) dX11_sheet_15 (by decide) (fun h_15 => ?_) (fun h_15 => ?_)
      · have hw : inB w (-1) 1 = true := (by have h1 := Int32.le_iff_toInt_le.mp h_15; have h2 := mt Int32.lt_iff_toInt_lt.mpr h_10; have e1 : (-1 : Int32).toInt = -1 := (by decide); have e2 : (1 : Int32).toInt = 1 := rfl; unfold inB; exact decide_eq_true (by omega))
        refine r_iload_n (μ := mX11_sheet) (pc := 21) dX11_sheet_21 rfl rfl ?_
        refine r_iconst (μ := mX11_sheet) (pc := 22) (v := -1) dX11_sheet_22 ic_m1 ?_
        refine r_icmp_eq (μ := mX11_sheet) (pc := 23) (tgt := 35) dX11_sheet_23 (by decide) (fun h_23 => ?_) (fun h_23 => ?_)
        · exact absurd ⟨h_5, hw, Or.inl (by rw [h_23]; decide)⟩ hb
        · refine r_iload_n (μ := mX11_sheet) (pc := 26) dX11_sheet_26 rfl rfl ?_
          refine r_bipush (μ := mX11_sheet) (pc := 27) (v := 24) dX11_sheet_27 bp_24 ?_
          refine r_icmp_le (μ := mX11_sheet) (pc := 29) (tgt := 35) dX11_sheet_29 (by decide) (fun h_29 => ?_) (fun h_29 => ?_)
          · exact absurd ⟨h_5, hw, Or.inr h_29⟩ hb
          · refine r_ldc (μ := mX11_sheet) (pc := 32) dX11_sheet_32 ctX11_97 ?_
            exact r_iret (μ := mX11_sheet) (pc := 34) dX11_sheet_34 rfl rfl (PI_i rfl)
      · refine r_ldc (μ := mX11_sheet) (pc := 18) dX11_sheet_18 ctX11_97 ?_
        exact r_iret (μ := mX11_sheet) (pc := 20) dX11_sheet_20 rfl rfl (PI_i rfl)

theorem k_sheet_size {d : Nat} {sh : List Sh} {mi : MI} {mr : MR} (hF : SHC sh) (hB : CB mr) {x w v : Int32} (h1 : inB x 0 3 = true) (h2 : inB w (-1) 1 = true) (h3 : ¬ w < 0) (h4 : v < 0) : CP (d + 1) mX11_sheet [.ref 0, .int x, .int w, .int v] sh mi mr 0 0 (PI (SIZEc) sh mi mr) := by
  have hw2 : -1 ≤ w.toInt ∧ w.toInt ≤ 1 := by unfold inB at h2; simpa using h2
  have e1 : (-1 : Int32).toInt = -1 := by decide
  have e2 : (1 : Int32).toInt = 1 := rfl
  have hwm : ¬ w = -1 := fun z => h3 (by rw [z]; decide)
  have hv0 := Int32.lt_iff_toInt_lt.mp h4; have e0 : (0 : Int32).toInt = 0 := rfl; have e24 : (24 : Int32).toInt = 24 := rfl
  refine CP.of (L := [_, _, _, _, _]) (by decide) rfl rfl (Nat.le_of_ble_eq_true rfl) ?_
  refine r_iload_n (μ := mX11_sheet) (pc := 0) dX11_sheet_0 rfl rfl ?_
  refine r_iconst (μ := mX11_sheet) (pc := 1) (v := 4) dX11_sheet_1 ic_4 ?_
  refine sP2 (μ := mX11_sheet) (pc := 2) (μ2 := mX11_within) dX11_sheet_2 lkX11_93 stX11_within mwX11_within (Nat.le_of_ble_eq_true rfl) (k_within (n := 4) rfl (by decide)) ?_
  rw [inR_B _ 3]
  refine r_if_eq (μ := mX11_sheet) (pc := 5) (tgt := 18) dX11_sheet_5 (by decide) (fun h_5 => absurd h_5 (b2i_ne h1)) (fun h_5 => ?_)
  refine r_iload_n (μ := mX11_sheet) (pc := 8) dX11_sheet_8 rfl rfl ?_
  refine r_iconst (μ := mX11_sheet) (pc := 9) (v := -1) dX11_sheet_9 ic_m1 ?_
  refine r_icmp_lt (μ := mX11_sheet) (pc := 10) (tgt := 18) dX11_sheet_10 (by decide) (fun h_10 => absurd h_10 (fun z => absurd (Int32.lt_iff_toInt_lt.mp z) (by omega))) (fun h_10 => ?_)
  refine r_iload_n (μ := mX11_sheet) (pc := 13) dX11_sheet_13 rfl rfl ?_
  refine r_iconst (μ := mX11_sheet) (pc := 14) (v := 1) dX11_sheet_14 ic_1 ?_
  refine r_icmp_le (μ := mX11_sheet) (pc := 15) (tgt := 21) dX11_sheet_15 (by decide) (fun h_15 => ?_) (fun h_15 => absurd (Int32.le_iff_toInt_le.mpr (by omega)) h_15)
  refine r_iload_n (μ := mX11_sheet) (pc := 21) dX11_sheet_21 rfl rfl ?_
  refine r_iconst (μ := mX11_sheet) (pc := 22) (v := -1) dX11_sheet_22 ic_m1 ?_
  refine r_icmp_eq (μ := mX11_sheet) (pc := 23) (tgt := 35) dX11_sheet_23 (by decide) (fun h_23 => absurd h_23 hwm) (fun h_23 => ?_)
  refine r_iload_n (μ := mX11_sheet) (pc := 26) dX11_sheet_26 rfl rfl ?_
  refine r_bipush (μ := mX11_sheet) (pc := 27) (v := 24) dX11_sheet_27 bp_24 ?_
  refine r_icmp_le (μ := mX11_sheet) (pc := 29) (tgt := 35) dX11_sheet_29 (by decide) (fun h_29 => ?_) (fun h_29 => absurd (Int32.le_iff_toInt_le.mpr (by omega)) h_29)
  refine r_iload_n (μ := mX11_sheet) (pc := 35) dX11_sheet_35 rfl rfl ?_
  refine r_iconst (μ := mX11_sheet) (pc := 36) (v := -1) dX11_sheet_36 ic_m1 ?_
  refine r_icmp_eq (μ := mX11_sheet) (pc := 37) (tgt := 48) dX11_sheet_37 (by decide) (fun h_37 => absurd h_37 hwm) (fun h_37 => ?_)
  refine r_iload_n (μ := mX11_sheet) (pc := 40) dX11_sheet_40 rfl rfl ?_
  refine r_if_ge (μ := mX11_sheet) (pc := 41) (tgt := 48) dX11_sheet_41 (by decide) (fun h_41 => absurd h_41 (Int32.not_le.mpr h4)) (fun h_41 => ?_)
  refine r_ldcw (μ := mX11_sheet) (pc := 44) dX11_sheet_44 ctX11_294 ?_
  exact r_iret (μ := mX11_sheet) (pc := 47) dX11_sheet_47 rfl rfl (PI_i rfl)

theorem k_sheet_miss {d : Nat} {sh : List Sh} {mi : MI} {mr : MR} (hF : SHC sh) (hB : CB mr) {k : Nat} (hk : k < 4) {v : Int32} : CP (d + 2) mX11_sheet [.ref 0, .int (nI k), .int (-1), .int v] sh mi mr 0 0 (PX sh mr (fun r mi2 => r = 0 ∧ mi2 = flI (upI (upI mi (53 + 2 * k) 0 (-1)) (53 + 2 * k) 1 0) (54 + 2 * k) 24 0)) := by
  obtain ⟨hsa, hpa⟩ := sh_s hF hk; obtain ⟨hr52, hrp⟩ := cr_s hB hk
  refine CP.of (L := [_, _, _, _, _]) (by decide) rfl rfl (Nat.le_of_ble_eq_true rfl) ?_
  refine r_iload_n (μ := mX11_sheet) (pc := 0) dX11_sheet_0 rfl rfl ?_
  refine r_iconst (μ := mX11_sheet) (pc := 1) (v := 4) dX11_sheet_1 ic_4 ?_
  refine sP2 (μ := mX11_sheet) (pc := 2) (μ2 := mX11_within) dX11_sheet_2 lkX11_93 stX11_within mwX11_within (Nat.le_of_ble_eq_true rfl) (k_within (n := 4) rfl (by decide)) ?_
  rw [inR_B _ 3]
  refine r_if_eq (μ := mX11_sheet) (pc := 5) (tgt := 18) dX11_sheet_5 (by decide) (fun h_5 => absurd h_5 (b2i_ne (inB_nI (by omega) (by omega)))) (fun h_5 => ?_)
  refine r_iload_n (μ := mX11_sheet) (pc := 8) dX11_sheet_8 rfl rfl ?_
  refine r_iconst (μ := mX11_sheet) (pc := 9) (v := -1) dX11_sheet_9 ic_m1 ?_
  refine r_icmp_lt (μ := mX11_sheet) (pc := 10) (tgt := 18) dX11_sheet_10 (by decide) (fun h_10 => absurd h_10 (by decide)) (fun h_10 => ?_)
  refine r_iload_n (μ := mX11_sheet) (pc := 13) dX11_sheet_13 rfl rfl ?_
  refine r_iconst (μ := mX11_sheet) (pc := 14) (v := 1) dX11_sheet_14 ic_1 ?_
  refine r_icmp_le (μ := mX11_sheet) (pc := 15) (tgt := 21) dX11_sheet_15 (by decide) (fun h_15 => ?_) (fun h_15 => absurd (by decide) h_15)
  refine r_iload_n (μ := mX11_sheet) (pc := 21) dX11_sheet_21 rfl rfl ?_
  refine r_iconst (μ := mX11_sheet) (pc := 22) (v := -1) dX11_sheet_22 ic_m1 ?_
  refine r_icmp_eq (μ := mX11_sheet) (pc := 23) (tgt := 35) dX11_sheet_23 (by decide) (fun h_23 => ?_) (fun h_23 => absurd rfl h_23)
  refine r_iload_n (μ := mX11_sheet) (pc := 35) dX11_sheet_35 rfl rfl ?_
  refine r_iconst (μ := mX11_sheet) (pc := 36) (v := -1) dX11_sheet_36 ic_m1 ?_
  refine r_icmp_eq (μ := mX11_sheet) (pc := 37) (tgt := 48) dX11_sheet_37 (by decide) (fun h_37 => ?_) (fun h_37 => absurd rfl h_37)
  refine r_iload_n (μ := mX11_sheet) (pc := 48) dX11_sheet_48 rfl rfl ?_
  refine r_iconst (μ := mX11_sheet) (pc := 49) (v := -1) dX11_sheet_49 ic_m1 ?_
  refine r_icmp_ne (μ := mX11_sheet) (pc := 50) (tgt := 57) dX11_sheet_50 (by decide) (fun h_50 => absurd rfl h_50) (fun h_50 => ?_)
  refine r_iconst (μ := mX11_sheet) (pc := 53) (v := 0) dX11_sheet_53 ic_0 ?_
  refine r_goto (μ := mX11_sheet) (pc := 54) (tgt := 58) dX11_sheet_54 (by decide) ?_
  refine s_istore (μ := mX11_sheet) (pc := 58) (L2 := [_, _, _, _, _]) dX11_sheet_58 (Nat.le_of_ble_eq_true rfl) (Nat.le_of_ble_eq_true rfl) rfl rfl ?_
  refine r_aload_n (μ := mX11_sheet) (pc := 60) dX11_sheet_60 rfl rfl rfl ?_
  refine r_getR (μ := mX11_sheet) (pc := 61) dX11_sheet_61 fpX11_69 rfl (hF _ _ rfl) (by decide) (hB _ _ _ rfl) ?_
  refine r_iload_n (μ := mX11_sheet) (pc := 64) dX11_sheet_64 rfl rfl ?_
  refine r_aaload (μ := mX11_sheet) (pc := 65) (t := 1) dX11_sheet_65 (by decide) (hF _ _ rfl) rfl (by omega) (by decide) hr52 ?_
  refine r_iload_n (μ := mX11_sheet) (pc := 66) dX11_sheet_66 rfl rfl ?_
  refine r_iload (μ := mX11_sheet) (pc := 67) dX11_sheet_67 rfl ?_
  refine vV2 (μ := mX11_sheet) (pc := 69) (c0 := 7) (q0 := (RX7, TX7, 3)) (μ2 := mX7_become) dX11_sheet_69 hsa rfl lkX11_295 imX7_become seX7_X7_become_X7_become mwX7_become (Nat.le_of_ble_eq_true rfl) (k_become hsa hpa hrp) (fun mi_69 h_69 => ?_)
  subst h_69
  refine r_iload (μ := mX11_sheet) (pc := 72) dX11_sheet_72 rfl ?_
  exact r_iret (μ := mX11_sheet) (pc := 74) dX11_sheet_74 rfl rfl (PX_i ⟨rfl, rfl⟩)

theorem k_sheet {d : Nat} {sh : List Sh} {mi : MI} {mr : MR} (hF : SHC sh) (hB : CB mr) {k z : Nat} (hk : k < 4) (hz : z ≤ 24) {w : Int32} (h2 : inB w (-1) 1 = true) (h3 : ¬ w < 0) : CP (d + 2) mX11_sheet [.ref 0, .int (nI k), .int w, .int (nI z)] sh mi mr 0 0 (PX sh mr (fun r mi2 => r = nI z ∧ mi2 = flI (upI (upI mi (53 + 2 * k) 0 w) (53 + 2 * k) 1 (nI z)) (54 + 2 * k) 24 0)) := by
  obtain ⟨hsa, hpa⟩ := sh_s hF hk; obtain ⟨hr52, hrp⟩ := cr_s hB hk
  have hw2 : -1 ≤ w.toInt ∧ w.toInt ≤ 1 := by unfold inB at h2; simpa using h2
  have e1 : (-1 : Int32).toInt = -1 := by decide
  have e2 : (1 : Int32).toInt = 1 := rfl
  have hwm : ¬ w = -1 := fun z => h3 (by rw [z]; decide)
  refine CP.of (L := [_, _, _, _, _]) (by decide) rfl rfl (Nat.le_of_ble_eq_true rfl) ?_
  refine r_iload_n (μ := mX11_sheet) (pc := 0) dX11_sheet_0 rfl rfl ?_
  refine r_iconst (μ := mX11_sheet) (pc := 1) (v := 4) dX11_sheet_1 ic_4 ?_
  refine sP2 (μ := mX11_sheet) (pc := 2) (μ2 := mX11_within) dX11_sheet_2 lkX11_93 stX11_within mwX11_within (Nat.le_of_ble_eq_true rfl) (k_within (n := 4) rfl (by decide)) ?_
  rw [inR_B _ 3]
  refine r_if_eq (μ := mX11_sheet) (pc := 5) (tgt := 18) dX11_sheet_5 (by decide) (fun h_5 => absurd h_5 (b2i_ne (inB_nI (by omega) (by omega)))) (fun h_5 => ?_)
  refine r_iload_n (μ := mX11_sheet) (pc := 8) dX11_sheet_8 rfl rfl ?_
  refine r_iconst (μ := mX11_sheet) (pc := 9) (v := -1) dX11_sheet_9 ic_m1 ?_
  refine r_icmp_lt (μ := mX11_sheet) (pc := 10) (tgt := 18) dX11_sheet_10 (by decide) (fun h_10 => absurd h_10 (fun z => absurd (Int32.lt_iff_toInt_lt.mp z) (by omega))) (fun h_10 => ?_)
  refine r_iload_n (μ := mX11_sheet) (pc := 13) dX11_sheet_13 rfl rfl ?_
  refine r_iconst (μ := mX11_sheet) (pc := 14) (v := 1) dX11_sheet_14 ic_1 ?_
  refine r_icmp_le (μ := mX11_sheet) (pc := 15) (tgt := 21) dX11_sheet_15 (by decide) (fun h_15 => ?_) (fun h_15 => absurd (Int32.le_iff_toInt_le.mpr (by omega)) h_15)
  refine r_iload_n (μ := mX11_sheet) (pc := 21) dX11_sheet_21 rfl rfl ?_
  refine r_iconst (μ := mX11_sheet) (pc := 22) (v := -1) dX11_sheet_22 ic_m1 ?_
  refine r_icmp_eq (μ := mX11_sheet) (pc := 23) (tgt := 35) dX11_sheet_23 (by decide) (fun h_23 => absurd h_23 hwm) (fun h_23 => ?_)
  refine r_iload_n (μ := mX11_sheet) (pc := 26) dX11_sheet_26 rfl rfl ?_
  refine r_bipush (μ := mX11_sheet) (pc := 27) (v := 24) dX11_sheet_27 bp_24 ?_
  refine r_icmp_le (μ := mX11_sheet) (pc := 29) (tgt := 35) dX11_sheet_29 (by decide) (fun h_29 => ?_) (fun h_29 => absurd (nI_le (b := 24) hz (by decide)) h_29)
  refine r_iload_n (μ := mX11_sheet) (pc := 35) dX11_sheet_35 rfl rfl ?_
  refine r_iconst (μ := mX11_sheet) (pc := 36) (v := -1) dX11_sheet_36 ic_m1 ?_
  refine r_icmp_eq (μ := mX11_sheet) (pc := 37) (tgt := 48) dX11_sheet_37 (by decide) (fun h_37 => absurd h_37 hwm) (fun h_37 => ?_)
  refine r_iload_n (μ := mX11_sheet) (pc := 40) dX11_sheet_40 rfl rfl ?_
  refine r_if_ge (μ := mX11_sheet) (pc := 41) (tgt := 48) dX11_sheet_41 (by decide) (fun h_41 => ?_) (fun h_41 => absurd (nI_pos' (by omega)) h_41)
  refine r_iload_n (μ := mX11_sheet) (pc := 48) dX11_sheet_48 rfl rfl ?_
  refine r_iconst (μ := mX11_sheet) (pc := 49) (v := -1) dX11_sheet_49 ic_m1 ?_
  refine r_icmp_ne (μ := mX11_sheet) (pc := 50) (tgt := 57) dX11_sheet_50 (by decide) (fun h_50 => ?_) (fun h_50 => absurd h_50 hwm)
  refine r_iload_n (μ := mX11_sheet) (pc := 57) dX11_sheet_57 rfl rfl ?_
  refine s_istore (μ := mX11_sheet) (pc := 58) (L2 := [_, _, _, _, _]) dX11_sheet_58 (Nat.le_of_ble_eq_true rfl) (Nat.le_of_ble_eq_true rfl) rfl rfl ?_
  refine r_aload_n (μ := mX11_sheet) (pc := 60) dX11_sheet_60 rfl rfl rfl ?_
  refine r_getR (μ := mX11_sheet) (pc := 61) dX11_sheet_61 fpX11_69 rfl (hF _ _ rfl) (by decide) (hB _ _ _ rfl) ?_
  refine r_iload_n (μ := mX11_sheet) (pc := 64) dX11_sheet_64 rfl rfl ?_
  refine r_aaload (μ := mX11_sheet) (pc := 65) (t := 1) dX11_sheet_65 (by decide) (hF _ _ rfl) rfl (by omega) (by decide) hr52 ?_
  refine r_iload_n (μ := mX11_sheet) (pc := 66) dX11_sheet_66 rfl rfl ?_
  refine r_iload (μ := mX11_sheet) (pc := 67) dX11_sheet_67 rfl ?_
  refine vV2 (μ := mX11_sheet) (pc := 69) (c0 := 7) (q0 := (RX7, TX7, 3)) (μ2 := mX7_become) dX11_sheet_69 hsa rfl lkX11_295 imX7_become seX7_X7_become_X7_become mwX7_become (Nat.le_of_ble_eq_true rfl) (k_become hsa hpa hrp) (fun mi_69 h_69 => ?_)
  subst h_69
  refine r_iload (μ := mX11_sheet) (pc := 72) dX11_sheet_72 rfl ?_
  exact r_iret (μ := mX11_sheet) (pc := 74) dX11_sheet_74 rfl rfl (PX_i ⟨rfl, rfl⟩)

theorem k_mark_bad {d : Nat} {sh : List Sh} {mi : MI} {mr : MR} (hF : SHC sh) (hB : CB mr) {x y v : Int32} (hb : ¬ inB x 0 3 = true) : CP (d + 1) mX11_mark [.ref 0, .int x, .int y, .int v] sh mi mr 0 0 (PI (BADc) sh mi mr) := by
  refine CP.of (L := [_, _, _, _, _]) (by decide) rfl rfl (Nat.le_of_ble_eq_true rfl) ?_
  refine r_iload_n (μ := mX11_mark) (pc := 0) dX11_mark_0 rfl rfl ?_
  refine r_iconst (μ := mX11_mark) (pc := 1) (v := 4) dX11_mark_1 ic_4 ?_
  refine sP2 (μ := mX11_mark) (pc := 2) (μ2 := mX11_within) dX11_mark_2 lkX11_93 stX11_within mwX11_within (Nat.le_of_ble_eq_true rfl) (k_within (n := 4) rfl (by decide)) ?_
  rw [inR_B _ 3]
  refine r_if_ne (μ := mX11_mark) (pc := 5) (tgt := 11) dX11_mark_5 (by decide) (fun h_5 => ?_) (fun h_5 => ?_)
  · have h_5 := b2i_1 h_5
    exact absurd h_5 hb
  · have h_5 := b2i_0 h_5
    refine r_ldc (μ := mX11_mark) (pc := 8) dX11_mark_8 ctX11_97 ?_
    exact r_iret (μ := mX11_mark) (pc := 10) dX11_mark_10 rfl rfl (PI_i rfl)

theorem k_mark_none {d : Nat} {sh : List Sh} {mi : MI} {mr : MR} (hF : SHC sh) (hB : CB mr) {k : Nat} (hk : k < 4) {x v : Int32} (hs : mi (53 + 2 * k) 0 = -1) : CP (d + 1) mX11_mark [.ref 0, .int (nI k), .int x, .int v] sh mi mr 0 0 (PI (NOTHINGc) sh mi mr) := by
  obtain ⟨hsa, hpa⟩ := sh_s hF hk; obtain ⟨hr52, hrp⟩ := cr_s hB hk
  refine CP.of (L := [_, _, _, _, _]) (by decide) rfl rfl (Nat.le_of_ble_eq_true rfl) ?_
  refine r_iload_n (μ := mX11_mark) (pc := 0) dX11_mark_0 rfl rfl ?_
  refine r_iconst (μ := mX11_mark) (pc := 1) (v := 4) dX11_mark_1 ic_4 ?_
  refine sP2 (μ := mX11_mark) (pc := 2) (μ2 := mX11_within) dX11_mark_2 lkX11_93 stX11_within mwX11_within (Nat.le_of_ble_eq_true rfl) (k_within (n := 4) rfl (by decide)) ?_
  rw [inR_B _ 3]
  refine r_if_ne (μ := mX11_mark) (pc := 5) (tgt := 11) dX11_mark_5 (by decide) (fun h_5 => ?_) (fun h_5 => absurd h_5 (b2i_ne (inB_nI (by omega) (by omega))))
  refine r_aload_n (μ := mX11_mark) (pc := 11) dX11_mark_11 rfl rfl rfl ?_
  refine r_getR (μ := mX11_mark) (pc := 12) dX11_mark_12 fpX11_69 rfl (hF _ _ rfl) (by decide) (hB _ _ _ rfl) ?_
  refine r_iload_n (μ := mX11_mark) (pc := 15) dX11_mark_15 rfl rfl ?_
  refine r_aaload (μ := mX11_mark) (pc := 16) (t := 1) dX11_mark_16 (by decide) (hF _ _ rfl) rfl (by omega) (by decide) hr52 ?_
  refine s_astore (μ := mX11_mark) (pc := 17) (L2 := [_, _, _, _, _]) dX11_mark_17 (Nat.le_of_ble_eq_true rfl) (Nat.le_of_ble_eq_true rfl) rfl rfl ?_
  refine r_aload (μ := mX11_mark) (pc := 19) dX11_mark_19 rfl rfl ?_
  refine r_getI (μ := mX11_mark) (pc := 21) dX11_mark_21 fpX11_299 rfl hsa (by decide) ?_
  refine r_iconst (μ := mX11_mark) (pc := 24) (v := -1) dX11_mark_24 ic_m1 ?_
  refine r_icmp_ne (μ := mX11_mark) (pc := 25) (tgt := 32) dX11_mark_25 (by decide) (fun h_25 => absurd hs h_25) (fun h_25 => ?_)
  refine r_ldcw (μ := mX11_mark) (pc := 28) dX11_mark_28 ctX11_302 ?_
  exact r_iret (μ := mX11_mark) (pc := 31) dX11_mark_31 rfl rfl (PI_i rfl)

theorem k_mark_ix {d : Nat} {sh : List Sh} {mi : MI} {mr : MR} (hF : SHC sh) (hB : CB mr) {k : Nat} (hk : k < 4) {z : Nat} (hz : mi (53 + 2 * k) 1 = nI z) (hz24 : z ≤ 24) {x v : Int32} (hs : ¬ mi (53 + 2 * k) 0 = -1) (hx : inR x z = false) : CP (d + 1) mX11_mark [.ref 0, .int (nI k), .int x, .int v] sh mi mr 0 0 (PI (INDEXc) sh mi mr) := by
  obtain ⟨hsa, hpa⟩ := sh_s hF hk; obtain ⟨hr52, hrp⟩ := cr_s hB hk
  refine CP.of (L := [_, _, _, _, _]) (by decide) rfl rfl (Nat.le_of_ble_eq_true rfl) ?_
  refine r_iload_n (μ := mX11_mark) (pc := 0) dX11_mark_0 rfl rfl ?_
  refine r_iconst (μ := mX11_mark) (pc := 1) (v := 4) dX11_mark_1 ic_4 ?_
  refine sP2 (μ := mX11_mark) (pc := 2) (μ2 := mX11_within) dX11_mark_2 lkX11_93 stX11_within mwX11_within (Nat.le_of_ble_eq_true rfl) (k_within (n := 4) rfl (by decide)) ?_
  rw [inR_B _ 3]
  refine r_if_ne (μ := mX11_mark) (pc := 5) (tgt := 11) dX11_mark_5 (by decide) (fun h_5 => ?_) (fun h_5 => absurd h_5 (b2i_ne (inB_nI (by omega) (by omega))))
  refine r_aload_n (μ := mX11_mark) (pc := 11) dX11_mark_11 rfl rfl rfl ?_
  refine r_getR (μ := mX11_mark) (pc := 12) dX11_mark_12 fpX11_69 rfl (hF _ _ rfl) (by decide) (hB _ _ _ rfl) ?_
  refine r_iload_n (μ := mX11_mark) (pc := 15) dX11_mark_15 rfl rfl ?_
  refine r_aaload (μ := mX11_mark) (pc := 16) (t := 1) dX11_mark_16 (by decide) (hF _ _ rfl) rfl (by omega) (by decide) hr52 ?_
  refine s_astore (μ := mX11_mark) (pc := 17) (L2 := [_, _, _, _, _]) dX11_mark_17 (Nat.le_of_ble_eq_true rfl) (Nat.le_of_ble_eq_true rfl) rfl rfl ?_
  refine r_aload (μ := mX11_mark) (pc := 19) dX11_mark_19 rfl rfl ?_
  refine r_getI (μ := mX11_mark) (pc := 21) dX11_mark_21 fpX11_299 rfl hsa (by decide) ?_
  refine r_iconst (μ := mX11_mark) (pc := 24) (v := -1) dX11_mark_24 ic_m1 ?_
  refine r_icmp_ne (μ := mX11_mark) (pc := 25) (tgt := 32) dX11_mark_25 (by decide) (fun h_25 => ?_) (fun h_25 => absurd h_25 hs)
  refine r_iload_n (μ := mX11_mark) (pc := 32) dX11_mark_32 rfl rfl ?_
  refine r_aload (μ := mX11_mark) (pc := 33) dX11_mark_33 rfl rfl ?_
  refine r_getI (μ := mX11_mark) (pc := 35) dX11_mark_35 fpX11_303 rfl hsa (by decide) ?_
  refine sP2 (μ := mX11_mark) (pc := 38) (μ2 := mX11_within) dX11_mark_38 lkX11_93 stX11_within mwX11_within (Nat.le_of_ble_eq_true rfl) (k_within hz (by omega)) ?_
  refine r_if_ne (μ := mX11_mark) (pc := 41) (tgt := 48) dX11_mark_41 (by decide) (fun h_41 => absurd (b2i_eq hx) h_41) (fun h_41 => ?_)
  refine r_ldcw (μ := mX11_mark) (pc := 44) dX11_mark_44 ctX11_306 ?_
  exact r_iret (μ := mX11_mark) (pc := 47) dX11_mark_47 rfl rfl (PI_i rfl)

theorem k_mark_kind {d : Nat} {sh : List Sh} {mi : MI} {mr : MR} (hF : SHC sh) (hB : CB mr) {k : Nat} (hk : k < 4) {z : Nat} (hz : mi (53 + 2 * k) 1 = nI z) (hz24 : z ≤ 24) {x : Int32} (hs : mi (53 + 2 * k) 0 = 0) (hx : inR x z = true) : CP (d + 1) mX11_mark [.ref 0, .int (nI k), .int x, .int (-1000000005)] sh mi mr 0 0 (PI (KINDc) sh mi mr) := by
  obtain ⟨hsa, hpa⟩ := sh_s hF hk; obtain ⟨hr52, hrp⟩ := cr_s hB hk
  refine CP.of (L := [_, _, _, _, _]) (by decide) rfl rfl (Nat.le_of_ble_eq_true rfl) ?_
  refine r_iload_n (μ := mX11_mark) (pc := 0) dX11_mark_0 rfl rfl ?_
  refine r_iconst (μ := mX11_mark) (pc := 1) (v := 4) dX11_mark_1 ic_4 ?_
  refine sP2 (μ := mX11_mark) (pc := 2) (μ2 := mX11_within) dX11_mark_2 lkX11_93 stX11_within mwX11_within (Nat.le_of_ble_eq_true rfl) (k_within (n := 4) rfl (by decide)) ?_
  rw [inR_B _ 3]
  refine r_if_ne (μ := mX11_mark) (pc := 5) (tgt := 11) dX11_mark_5 (by decide) (fun h_5 => ?_) (fun h_5 => absurd h_5 (b2i_ne (inB_nI (by omega) (by omega))))
  refine r_aload_n (μ := mX11_mark) (pc := 11) dX11_mark_11 rfl rfl rfl ?_
  refine r_getR (μ := mX11_mark) (pc := 12) dX11_mark_12 fpX11_69 rfl (hF _ _ rfl) (by decide) (hB _ _ _ rfl) ?_
  refine r_iload_n (μ := mX11_mark) (pc := 15) dX11_mark_15 rfl rfl ?_
  refine r_aaload (μ := mX11_mark) (pc := 16) (t := 1) dX11_mark_16 (by decide) (hF _ _ rfl) rfl (by omega) (by decide) hr52 ?_
  refine s_astore (μ := mX11_mark) (pc := 17) (L2 := [_, _, _, _, _]) dX11_mark_17 (Nat.le_of_ble_eq_true rfl) (Nat.le_of_ble_eq_true rfl) rfl rfl ?_
  refine r_aload (μ := mX11_mark) (pc := 19) dX11_mark_19 rfl rfl ?_
  refine r_getI (μ := mX11_mark) (pc := 21) dX11_mark_21 fpX11_299 rfl hsa (by decide) ?_
  refine r_iconst (μ := mX11_mark) (pc := 24) (v := -1) dX11_mark_24 ic_m1 ?_
  refine r_icmp_ne (μ := mX11_mark) (pc := 25) (tgt := 32) dX11_mark_25 (by decide) (fun h_25 => ?_) (fun h_25 => absurd h_25 (by rw [hs]; decide))
  refine r_iload_n (μ := mX11_mark) (pc := 32) dX11_mark_32 rfl rfl ?_
  refine r_aload (μ := mX11_mark) (pc := 33) dX11_mark_33 rfl rfl ?_
  refine r_getI (μ := mX11_mark) (pc := 35) dX11_mark_35 fpX11_303 rfl hsa (by decide) ?_
  refine sP2 (μ := mX11_mark) (pc := 38) (μ2 := mX11_within) dX11_mark_38 lkX11_93 stX11_within mwX11_within (Nat.le_of_ble_eq_true rfl) (k_within hz (by omega)) ?_
  refine r_if_ne (μ := mX11_mark) (pc := 41) (tgt := 48) dX11_mark_41 (by decide) (fun h_41 => ?_) (fun h_41 => absurd h_41 (b2i_ne hx))
  refine r_aload (μ := mX11_mark) (pc := 48) dX11_mark_48 rfl rfl ?_
  refine r_getI (μ := mX11_mark) (pc := 50) dX11_mark_50 fpX11_299 rfl hsa (by decide) ?_
  refine r_if_ne (μ := mX11_mark) (pc := 53) (tgt := 76) dX11_mark_53 (by decide) (fun h_53 => absurd hs h_53) (fun h_53 => ?_)
  refine r_iload_n (μ := mX11_mark) (pc := 56) dX11_mark_56 rfl rfl ?_
  refine r_ldc (μ := mX11_mark) (pc := 57) dX11_mark_57 ctX11_225 ?_
  refine r_icmp_ne (μ := mX11_mark) (pc := 59) (tgt := 65) dX11_mark_59 (by decide) (fun h_59 => absurd rfl h_59) (fun h_59 => ?_)
  refine r_ldc (μ := mX11_mark) (pc := 62) dX11_mark_62 ctX11_182 ?_
  exact r_iret (μ := mX11_mark) (pc := 64) dX11_mark_64 rfl rfl (PI_i rfl)

theorem k_mark_v {d : Nat} {sh : List Sh} {mi : MI} {mr : MR} (hF : SHC sh) (hB : CB mr) {k : Nat} (hk : k < 4) {z : Nat} (hz : mi (53 + 2 * k) 1 = nI z) (hz24 : z ≤ 24) {x v : Int32} (hs : mi (53 + 2 * k) 0 = 1) (hx : inR x z = true) (hv : ¬ v = -1000000005) (hv2 : inB v (-99999) 99999 = false) : CP (d + 1) mX11_mark [.ref 0, .int (nI k), .int x, .int v] sh mi mr 0 0 (PI (BADc) sh mi mr) := by
  obtain ⟨hsa, hpa⟩ := sh_s hF hk; obtain ⟨hr52, hrp⟩ := cr_s hB hk
  have hvt : ¬ (-99999 ≤ v.toInt ∧ v.toInt ≤ 99999) := by unfold inB at hv2; simpa using hv2
  have e1 : (-99999 : Int32).toInt = -99999 := by decide
  have e2 : (99999 : Int32).toInt = 99999 := by decide
  refine CP.of (L := [_, _, _, _, _]) (by decide) rfl rfl (Nat.le_of_ble_eq_true rfl) ?_
  refine r_iload_n (μ := mX11_mark) (pc := 0) dX11_mark_0 rfl rfl ?_
  refine r_iconst (μ := mX11_mark) (pc := 1) (v := 4) dX11_mark_1 ic_4 ?_
  refine sP2 (μ := mX11_mark) (pc := 2) (μ2 := mX11_within) dX11_mark_2 lkX11_93 stX11_within mwX11_within (Nat.le_of_ble_eq_true rfl) (k_within (n := 4) rfl (by decide)) ?_
  rw [inR_B _ 3]
  refine r_if_ne (μ := mX11_mark) (pc := 5) (tgt := 11) dX11_mark_5 (by decide) (fun h_5 => ?_) (fun h_5 => absurd h_5 (b2i_ne (inB_nI (by omega) (by omega))))
  refine r_aload_n (μ := mX11_mark) (pc := 11) dX11_mark_11 rfl rfl rfl ?_
  refine r_getR (μ := mX11_mark) (pc := 12) dX11_mark_12 fpX11_69 rfl (hF _ _ rfl) (by decide) (hB _ _ _ rfl) ?_
  refine r_iload_n (μ := mX11_mark) (pc := 15) dX11_mark_15 rfl rfl ?_
  refine r_aaload (μ := mX11_mark) (pc := 16) (t := 1) dX11_mark_16 (by decide) (hF _ _ rfl) rfl (by omega) (by decide) hr52 ?_
  refine s_astore (μ := mX11_mark) (pc := 17) (L2 := [_, _, _, _, _]) dX11_mark_17 (Nat.le_of_ble_eq_true rfl) (Nat.le_of_ble_eq_true rfl) rfl rfl ?_
  refine r_aload (μ := mX11_mark) (pc := 19) dX11_mark_19 rfl rfl ?_
  refine r_getI (μ := mX11_mark) (pc := 21) dX11_mark_21 fpX11_299 rfl hsa (by decide) ?_
  refine r_iconst (μ := mX11_mark) (pc := 24) (v := -1) dX11_mark_24 ic_m1 ?_
  refine r_icmp_ne (μ := mX11_mark) (pc := 25) (tgt := 32) dX11_mark_25 (by decide) (fun h_25 => ?_) (fun h_25 => absurd h_25 (by rw [hs]; decide))
  refine r_iload_n (μ := mX11_mark) (pc := 32) dX11_mark_32 rfl rfl ?_
  refine r_aload (μ := mX11_mark) (pc := 33) dX11_mark_33 rfl rfl ?_
  refine r_getI (μ := mX11_mark) (pc := 35) dX11_mark_35 fpX11_303 rfl hsa (by decide) ?_
  refine sP2 (μ := mX11_mark) (pc := 38) (μ2 := mX11_within) dX11_mark_38 lkX11_93 stX11_within mwX11_within (Nat.le_of_ble_eq_true rfl) (k_within hz (by omega)) ?_
  refine r_if_ne (μ := mX11_mark) (pc := 41) (tgt := 48) dX11_mark_41 (by decide) (fun h_41 => ?_) (fun h_41 => absurd h_41 (b2i_ne hx))
  refine r_aload (μ := mX11_mark) (pc := 48) dX11_mark_48 rfl rfl ?_
  refine r_getI (μ := mX11_mark) (pc := 50) dX11_mark_50 fpX11_299 rfl hsa (by decide) ?_
  refine r_if_ne (μ := mX11_mark) (pc := 53) (tgt := 76) dX11_mark_53 (by decide) (fun h_53 => ?_) (fun h_53 => absurd h_53 (by rw [hs]; decide))
  refine r_iload_n (μ := mX11_mark) (pc := 76) dX11_mark_76 rfl rfl ?_
  refine r_ldc (μ := mX11_mark) (pc := 77) dX11_mark_77 ctX11_225 ?_
  refine r_icmp_eq (μ := mX11_mark) (pc := 79) (tgt := 99) dX11_mark_79 (by decide) (fun h_79 => absurd h_79 hv) (fun h_79 => ?_)
  refine r_iload_n (μ := mX11_mark) (pc := 82) dX11_mark_82 rfl rfl ?_
  refine r_ldcw (μ := mX11_mark) (pc := 83) dX11_mark_83 ctX11_310 ?_
  refine r_icmp_lt (μ := mX11_mark) (pc := 86) (tgt := 96) dX11_mark_86 (by decide) (fun h_86 => ?_) (fun h_86 => ?_)
  · refine r_ldc (μ := mX11_mark) (pc := 96) dX11_mark_96 ctX11_97 ?_
    exact r_iret (μ := mX11_mark) (pc := 98) dX11_mark_98 rfl rfl (PI_i rfl)
  · refine r_iload_n (μ := mX11_mark) (pc := 89) dX11_mark_89 rfl rfl ?_
    refine r_ldcw (μ := mX11_mark) (pc := 90) dX11_mark_90 ctX11_311 ?_
    refine r_icmp_le (μ := mX11_mark) (pc := 93) (tgt := 99) dX11_mark_93 (by decide) (fun h_93 => ?_) (fun h_93 => ?_)
    · exact absurd (by have h1 := Int32.le_iff_toInt_le.mp h_93; have h2 := mt Int32.lt_iff_toInt_lt.mpr h_86; omega) hvt
    · refine r_ldc (μ := mX11_mark) (pc := 96) dX11_mark_96 ctX11_97 ?_
      exact r_iret (μ := mX11_mark) (pc := 98) dX11_mark_98 rfl rfl (PI_i rfl)

theorem k_mark0 {d : Nat} {sh : List Sh} {mi : MI} {mr : MR} (hF : SHC sh) (hB : CB mr) {k : Nat} (hk : k < 4) {z : Nat} (hz : mi (53 + 2 * k) 1 = nI z) (hz24 : z ≤ 24) {j : Nat} {v : Int32} (hj : j < z) (hs : mi (53 + 2 * k) 0 = 0) (hv : ¬ v = -1000000005) : CP (d + 1) mX11_mark [.ref 0, .int (nI k), .int (nI j), .int v] sh mi mr 0 0 (PX sh mr (fun r mi2 => r = 1 ∧ mi2 = upI mi (54 + 2 * k) j (v <<< ((16 : Int32) &&& 31) >>> ((16 : Int32) &&& 31)))) := by
  obtain ⟨hsa, hpa⟩ := sh_s hF hk; obtain ⟨hr52, hrp⟩ := cr_s hB hk
  refine CP.of (L := [_, _, _, _, _]) (by decide) rfl rfl (Nat.le_of_ble_eq_true rfl) ?_
  refine r_iload_n (μ := mX11_mark) (pc := 0) dX11_mark_0 rfl rfl ?_
  refine r_iconst (μ := mX11_mark) (pc := 1) (v := 4) dX11_mark_1 ic_4 ?_
  refine sP2 (μ := mX11_mark) (pc := 2) (μ2 := mX11_within) dX11_mark_2 lkX11_93 stX11_within mwX11_within (Nat.le_of_ble_eq_true rfl) (k_within (n := 4) rfl (by decide)) ?_
  rw [inR_B _ 3]
  refine r_if_ne (μ := mX11_mark) (pc := 5) (tgt := 11) dX11_mark_5 (by decide) (fun h_5 => ?_) (fun h_5 => absurd h_5 (b2i_ne (inB_nI (by omega) (by omega))))
  refine r_aload_n (μ := mX11_mark) (pc := 11) dX11_mark_11 rfl rfl rfl ?_
  refine r_getR (μ := mX11_mark) (pc := 12) dX11_mark_12 fpX11_69 rfl (hF _ _ rfl) (by decide) (hB _ _ _ rfl) ?_
  refine r_iload_n (μ := mX11_mark) (pc := 15) dX11_mark_15 rfl rfl ?_
  refine r_aaload (μ := mX11_mark) (pc := 16) (t := 1) dX11_mark_16 (by decide) (hF _ _ rfl) rfl (by omega) (by decide) hr52 ?_
  refine s_astore (μ := mX11_mark) (pc := 17) (L2 := [_, _, _, _, _]) dX11_mark_17 (Nat.le_of_ble_eq_true rfl) (Nat.le_of_ble_eq_true rfl) rfl rfl ?_
  refine r_aload (μ := mX11_mark) (pc := 19) dX11_mark_19 rfl rfl ?_
  refine r_getI (μ := mX11_mark) (pc := 21) dX11_mark_21 fpX11_299 rfl hsa (by decide) ?_
  refine r_iconst (μ := mX11_mark) (pc := 24) (v := -1) dX11_mark_24 ic_m1 ?_
  refine r_icmp_ne (μ := mX11_mark) (pc := 25) (tgt := 32) dX11_mark_25 (by decide) (fun h_25 => ?_) (fun h_25 => absurd h_25 (by rw [hs]; decide))
  refine r_iload_n (μ := mX11_mark) (pc := 32) dX11_mark_32 rfl rfl ?_
  refine r_aload (μ := mX11_mark) (pc := 33) dX11_mark_33 rfl rfl ?_
  refine r_getI (μ := mX11_mark) (pc := 35) dX11_mark_35 fpX11_303 rfl hsa (by decide) ?_
  refine sP2 (μ := mX11_mark) (pc := 38) (μ2 := mX11_within) dX11_mark_38 lkX11_93 stX11_within mwX11_within (Nat.le_of_ble_eq_true rfl) (k_within hz (by omega)) ?_
  refine r_if_ne (μ := mX11_mark) (pc := 41) (tgt := 48) dX11_mark_41 (by decide) (fun h_41 => ?_) (fun h_41 => absurd h_41 (b2i_ne (inR_nI hj (by omega))))
  refine r_aload (μ := mX11_mark) (pc := 48) dX11_mark_48 rfl rfl ?_
  refine r_getI (μ := mX11_mark) (pc := 50) dX11_mark_50 fpX11_299 rfl hsa (by decide) ?_
  refine r_if_ne (μ := mX11_mark) (pc := 53) (tgt := 76) dX11_mark_53 (by decide) (fun h_53 => absurd hs h_53) (fun h_53 => ?_)
  refine r_iload_n (μ := mX11_mark) (pc := 56) dX11_mark_56 rfl rfl ?_
  refine r_ldc (μ := mX11_mark) (pc := 57) dX11_mark_57 ctX11_225 ?_
  refine r_icmp_ne (μ := mX11_mark) (pc := 59) (tgt := 65) dX11_mark_59 (by decide) (fun h_59 => ?_) (fun h_59 => absurd h_59 hv)
  refine r_aload (μ := mX11_mark) (pc := 65) dX11_mark_65 rfl rfl ?_
  refine r_getR (μ := mX11_mark) (pc := 67) dX11_mark_67 fpX11_307 rfl hsa (by decide) hrp ?_
  refine r_iload_n (μ := mX11_mark) (pc := 70) dX11_mark_70 rfl rfl ?_
  refine r_iload_n (μ := mX11_mark) (pc := 71) dX11_mark_71 rfl rfl ?_
  refine r_i2s (μ := mX11_mark) (pc := 72) dX11_mark_72 ?_
  rw [i2s_sh]
  refine r_iastore (μ := mX11_mark) (pc := 73) (j := j) dX11_mark_73 hpa rfl (by omega) (by decide) ?_
  refine r_iconst (μ := mX11_mark) (pc := 74) (v := 1) dX11_mark_74 ic_1 ?_
  exact r_iret (μ := mX11_mark) (pc := 75) dX11_mark_75 rfl rfl (PX_i ⟨rfl, rfl⟩)

theorem k_mark1n {d : Nat} {sh : List Sh} {mi : MI} {mr : MR} (hF : SHC sh) (hB : CB mr) {k : Nat} (hk : k < 4) {z : Nat} (hz : mi (53 + 2 * k) 1 = nI z) (hz24 : z ≤ 24) {j : Nat} (hj : j < z) (hs : mi (53 + 2 * k) 0 = 1) : CP (d + 1) mX11_mark [.ref 0, .int (nI k), .int (nI j), .int (-1000000005)] sh mi mr 0 0 (PX sh mr (fun r mi2 => r = 1 ∧ mi2 = upI mi (54 + 2 * k) j (-1000000005))) := by
  obtain ⟨hsa, hpa⟩ := sh_s hF hk; obtain ⟨hr52, hrp⟩ := cr_s hB hk
  refine CP.of (L := [_, _, _, _, _]) (by decide) rfl rfl (Nat.le_of_ble_eq_true rfl) ?_
  refine r_iload_n (μ := mX11_mark) (pc := 0) dX11_mark_0 rfl rfl ?_
  refine r_iconst (μ := mX11_mark) (pc := 1) (v := 4) dX11_mark_1 ic_4 ?_
  refine sP2 (μ := mX11_mark) (pc := 2) (μ2 := mX11_within) dX11_mark_2 lkX11_93 stX11_within mwX11_within (Nat.le_of_ble_eq_true rfl) (k_within (n := 4) rfl (by decide)) ?_
  rw [inR_B _ 3]
  refine r_if_ne (μ := mX11_mark) (pc := 5) (tgt := 11) dX11_mark_5 (by decide) (fun h_5 => ?_) (fun h_5 => absurd h_5 (b2i_ne (inB_nI (by omega) (by omega))))
  refine r_aload_n (μ := mX11_mark) (pc := 11) dX11_mark_11 rfl rfl rfl ?_
  refine r_getR (μ := mX11_mark) (pc := 12) dX11_mark_12 fpX11_69 rfl (hF _ _ rfl) (by decide) (hB _ _ _ rfl) ?_
  refine r_iload_n (μ := mX11_mark) (pc := 15) dX11_mark_15 rfl rfl ?_
  refine r_aaload (μ := mX11_mark) (pc := 16) (t := 1) dX11_mark_16 (by decide) (hF _ _ rfl) rfl (by omega) (by decide) hr52 ?_
  refine s_astore (μ := mX11_mark) (pc := 17) (L2 := [_, _, _, _, _]) dX11_mark_17 (Nat.le_of_ble_eq_true rfl) (Nat.le_of_ble_eq_true rfl) rfl rfl ?_
  refine r_aload (μ := mX11_mark) (pc := 19) dX11_mark_19 rfl rfl ?_
  refine r_getI (μ := mX11_mark) (pc := 21) dX11_mark_21 fpX11_299 rfl hsa (by decide) ?_
  refine r_iconst (μ := mX11_mark) (pc := 24) (v := -1) dX11_mark_24 ic_m1 ?_
  refine r_icmp_ne (μ := mX11_mark) (pc := 25) (tgt := 32) dX11_mark_25 (by decide) (fun h_25 => ?_) (fun h_25 => absurd h_25 (by rw [hs]; decide))
  refine r_iload_n (μ := mX11_mark) (pc := 32) dX11_mark_32 rfl rfl ?_
  refine r_aload (μ := mX11_mark) (pc := 33) dX11_mark_33 rfl rfl ?_
  refine r_getI (μ := mX11_mark) (pc := 35) dX11_mark_35 fpX11_303 rfl hsa (by decide) ?_
  refine sP2 (μ := mX11_mark) (pc := 38) (μ2 := mX11_within) dX11_mark_38 lkX11_93 stX11_within mwX11_within (Nat.le_of_ble_eq_true rfl) (k_within hz (by omega)) ?_
  refine r_if_ne (μ := mX11_mark) (pc := 41) (tgt := 48) dX11_mark_41 (by decide) (fun h_41 => ?_) (fun h_41 => absurd h_41 (b2i_ne (inR_nI hj (by omega))))
  refine r_aload (μ := mX11_mark) (pc := 48) dX11_mark_48 rfl rfl ?_
  refine r_getI (μ := mX11_mark) (pc := 50) dX11_mark_50 fpX11_299 rfl hsa (by decide) ?_
  refine r_if_ne (μ := mX11_mark) (pc := 53) (tgt := 76) dX11_mark_53 (by decide) (fun h_53 => ?_) (fun h_53 => absurd h_53 (by rw [hs]; decide))
  refine r_iload_n (μ := mX11_mark) (pc := 76) dX11_mark_76 rfl rfl ?_
  refine r_ldc (μ := mX11_mark) (pc := 77) dX11_mark_77 ctX11_225 ?_
  refine r_icmp_eq (μ := mX11_mark) (pc := 79) (tgt := 99) dX11_mark_79 (by decide) (fun h_79 => ?_) (fun h_79 => absurd rfl h_79)
  refine r_aload (μ := mX11_mark) (pc := 99) dX11_mark_99 rfl rfl ?_
  refine r_getR (μ := mX11_mark) (pc := 101) dX11_mark_101 fpX11_307 rfl hsa (by decide) hrp ?_
  refine r_iload_n (μ := mX11_mark) (pc := 104) dX11_mark_104 rfl rfl ?_
  refine r_iload_n (μ := mX11_mark) (pc := 105) dX11_mark_105 rfl rfl ?_
  refine r_iastore (μ := mX11_mark) (pc := 106) (j := j) dX11_mark_106 hpa rfl (by omega) (by decide) ?_
  refine r_iconst (μ := mX11_mark) (pc := 107) (v := 1) dX11_mark_107 ic_1 ?_
  exact r_iret (μ := mX11_mark) (pc := 108) dX11_mark_108 rfl rfl (PX_i ⟨rfl, rfl⟩)

theorem k_mark1 {d : Nat} {sh : List Sh} {mi : MI} {mr : MR} (hF : SHC sh) (hB : CB mr) {k : Nat} (hk : k < 4) {z : Nat} (hz : mi (53 + 2 * k) 1 = nI z) (hz24 : z ≤ 24) {j : Nat} {v : Int32} (hj : j < z) (hs : mi (53 + 2 * k) 0 = 1) (hv : ¬ v = -1000000005) (hv2 : inB v (-99999) 99999 = true) : CP (d + 1) mX11_mark [.ref 0, .int (nI k), .int (nI j), .int v] sh mi mr 0 0 (PX sh mr (fun r mi2 => r = 1 ∧ mi2 = upI mi (54 + 2 * k) j v)) := by
  obtain ⟨hsa, hpa⟩ := sh_s hF hk; obtain ⟨hr52, hrp⟩ := cr_s hB hk
  have hvt : (-99999 ≤ v.toInt ∧ v.toInt ≤ 99999) := by unfold inB at hv2; simpa using hv2
  have e1 : (-99999 : Int32).toInt = -99999 := by decide
  have e2 : (99999 : Int32).toInt = 99999 := by decide
  refine CP.of (L := [_, _, _, _, _]) (by decide) rfl rfl (Nat.le_of_ble_eq_true rfl) ?_
  refine r_iload_n (μ := mX11_mark) (pc := 0) dX11_mark_0 rfl rfl ?_
  refine r_iconst (μ := mX11_mark) (pc := 1) (v := 4) dX11_mark_1 ic_4 ?_
  refine sP2 (μ := mX11_mark) (pc := 2) (μ2 := mX11_within) dX11_mark_2 lkX11_93 stX11_within mwX11_within (Nat.le_of_ble_eq_true rfl) (k_within (n := 4) rfl (by decide)) ?_
  rw [inR_B _ 3]
  refine r_if_ne (μ := mX11_mark) (pc := 5) (tgt := 11) dX11_mark_5 (by decide) (fun h_5 => ?_) (fun h_5 => absurd h_5 (b2i_ne (inB_nI (by omega) (by omega))))
  refine r_aload_n (μ := mX11_mark) (pc := 11) dX11_mark_11 rfl rfl rfl ?_
  refine r_getR (μ := mX11_mark) (pc := 12) dX11_mark_12 fpX11_69 rfl (hF _ _ rfl) (by decide) (hB _ _ _ rfl) ?_
  refine r_iload_n (μ := mX11_mark) (pc := 15) dX11_mark_15 rfl rfl ?_
  refine r_aaload (μ := mX11_mark) (pc := 16) (t := 1) dX11_mark_16 (by decide) (hF _ _ rfl) rfl (by omega) (by decide) hr52 ?_
  refine s_astore (μ := mX11_mark) (pc := 17) (L2 := [_, _, _, _, _]) dX11_mark_17 (Nat.le_of_ble_eq_true rfl) (Nat.le_of_ble_eq_true rfl) rfl rfl ?_
  refine r_aload (μ := mX11_mark) (pc := 19) dX11_mark_19 rfl rfl ?_
  refine r_getI (μ := mX11_mark) (pc := 21) dX11_mark_21 fpX11_299 rfl hsa (by decide) ?_
  refine r_iconst (μ := mX11_mark) (pc := 24) (v := -1) dX11_mark_24 ic_m1 ?_
  refine r_icmp_ne (μ := mX11_mark) (pc := 25) (tgt := 32) dX11_mark_25 (by decide) (fun h_25 => ?_) (fun h_25 => absurd h_25 (by rw [hs]; decide))
  refine r_iload_n (μ := mX11_mark) (pc := 32) dX11_mark_32 rfl rfl ?_
  refine r_aload (μ := mX11_mark) (pc := 33) dX11_mark_33 rfl rfl ?_
  refine r_getI (μ := mX11_mark) (pc := 35) dX11_mark_35 fpX11_303 rfl hsa (by decide) ?_
  refine sP2 (μ := mX11_mark) (pc := 38) (μ2 := mX11_within) dX11_mark_38 lkX11_93 stX11_within mwX11_within (Nat.le_of_ble_eq_true rfl) (k_within hz (by omega)) ?_
  refine r_if_ne (μ := mX11_mark) (pc := 41) (tgt := 48) dX11_mark_41 (by decide) (fun h_41 => ?_) (fun h_41 => absurd h_41 (b2i_ne (inR_nI hj (by omega))))
  refine r_aload (μ := mX11_mark) (pc := 48) dX11_mark_48 rfl rfl ?_
  refine r_getI (μ := mX11_mark) (pc := 50) dX11_mark_50 fpX11_299 rfl hsa (by decide) ?_
  refine r_if_ne (μ := mX11_mark) (pc := 53) (tgt := 76) dX11_mark_53 (by decide) (fun h_53 => ?_) (fun h_53 => absurd h_53 (by rw [hs]; decide))
  refine r_iload_n (μ := mX11_mark) (pc := 76) dX11_mark_76 rfl rfl ?_
  refine r_ldc (μ := mX11_mark) (pc := 77) dX11_mark_77 ctX11_225 ?_
  refine r_icmp_eq (μ := mX11_mark) (pc := 79) (tgt := 99) dX11_mark_79 (by decide) (fun h_79 => absurd h_79 hv) (fun h_79 => ?_)
  refine r_iload_n (μ := mX11_mark) (pc := 82) dX11_mark_82 rfl rfl ?_
  refine r_ldcw (μ := mX11_mark) (pc := 83) dX11_mark_83 ctX11_310 ?_
  refine r_icmp_lt (μ := mX11_mark) (pc := 86) (tgt := 96) dX11_mark_86 (by decide) (fun h_86 => absurd h_86 (fun z => absurd (Int32.lt_iff_toInt_lt.mp z) (by omega))) (fun h_86 => ?_)
  refine r_iload_n (μ := mX11_mark) (pc := 89) dX11_mark_89 rfl rfl ?_
  refine r_ldcw (μ := mX11_mark) (pc := 90) dX11_mark_90 ctX11_311 ?_
  refine r_icmp_le (μ := mX11_mark) (pc := 93) (tgt := 99) dX11_mark_93 (by decide) (fun h_93 => ?_) (fun h_93 => absurd (Int32.le_iff_toInt_le.mpr (by omega)) h_93)
  refine r_aload (μ := mX11_mark) (pc := 99) dX11_mark_99 rfl rfl ?_
  refine r_getR (μ := mX11_mark) (pc := 101) dX11_mark_101 fpX11_307 rfl hsa (by decide) hrp ?_
  refine r_iload_n (μ := mX11_mark) (pc := 104) dX11_mark_104 rfl rfl ?_
  refine r_iload_n (μ := mX11_mark) (pc := 105) dX11_mark_105 rfl rfl ?_
  refine r_iastore (μ := mX11_mark) (pc := 106) (j := j) dX11_mark_106 hpa rfl (by omega) (by decide) ?_
  refine r_iconst (μ := mX11_mark) (pc := 107) (v := 1) dX11_mark_107 ic_1 ?_
  exact r_iret (μ := mX11_mark) (pc := 108) dX11_mark_108 rfl rfl (PX_i ⟨rfl, rfl⟩)

theorem k_pour_bad {d : Nat} {sh : List Sh} {mi : MI} {mr : MR} (hF : SHC sh) (hB : CB mr) {x : Int32} (hb : ¬ inB x 0 3 = true) : CP (d + 1) mX11_pour [.ref 0, .int x] sh mi mr 0 0 (PI (BADc) sh mi mr) := by
  refine CP.of (L := [_, _, _, _, _, _]) (by decide) rfl rfl (Nat.le_of_ble_eq_true rfl) ?_
  refine r_iload_n (μ := mX11_pour) (pc := 0) dX11_pour_0 rfl rfl ?_
  refine r_iconst (μ := mX11_pour) (pc := 1) (v := 4) dX11_pour_1 ic_4 ?_
  refine sP2 (μ := mX11_pour) (pc := 2) (μ2 := mX11_within) dX11_pour_2 lkX11_93 stX11_within mwX11_within (Nat.le_of_ble_eq_true rfl) (k_within (n := 4) rfl (by decide)) ?_
  rw [inR_B _ 3]
  refine r_if_ne (μ := mX11_pour) (pc := 5) (tgt := 11) dX11_pour_5 (by decide) (fun h_5 => ?_) (fun h_5 => ?_)
  · have h_5 := b2i_1 h_5
    exact absurd h_5 hb
  · have h_5 := b2i_0 h_5
    refine r_ldc (μ := mX11_pour) (pc := 8) dX11_pour_8 ctX11_97 ?_
    exact r_iret (μ := mX11_pour) (pc := 10) dX11_pour_10 rfl rfl (PI_i rfl)

theorem k_pour_none {d : Nat} {sh : List Sh} {mi : MI} {mr : MR} (hF : SHC sh) (hB : CB mr) {k : Nat} (hk : k < 4) (hs : mi (53 + 2 * k) 0 = -1) : CP (d + 1) mX11_pour [.ref 0, .int (nI k)] sh mi mr 0 0 (PI (NOTHINGc) sh mi mr) := by
  obtain ⟨hsa, hpa⟩ := sh_s hF hk; obtain ⟨hr52, hrp⟩ := cr_s hB hk
  refine CP.of (L := [_, _, _, _, _, _]) (by decide) rfl rfl (Nat.le_of_ble_eq_true rfl) ?_
  refine r_iload_n (μ := mX11_pour) (pc := 0) dX11_pour_0 rfl rfl ?_
  refine r_iconst (μ := mX11_pour) (pc := 1) (v := 4) dX11_pour_1 ic_4 ?_
  refine sP2 (μ := mX11_pour) (pc := 2) (μ2 := mX11_within) dX11_pour_2 lkX11_93 stX11_within mwX11_within (Nat.le_of_ble_eq_true rfl) (k_within (n := 4) rfl (by decide)) ?_
  rw [inR_B _ 3]
  refine r_if_ne (μ := mX11_pour) (pc := 5) (tgt := 11) dX11_pour_5 (by decide) (fun h_5 => ?_) (fun h_5 => absurd h_5 (b2i_ne (inB_nI (by omega) (by omega))))
  refine r_aload_n (μ := mX11_pour) (pc := 11) dX11_pour_11 rfl rfl rfl ?_
  refine r_getR (μ := mX11_pour) (pc := 12) dX11_pour_12 fpX11_69 rfl (hF _ _ rfl) (by decide) (hB _ _ _ rfl) ?_
  refine r_iload_n (μ := mX11_pour) (pc := 15) dX11_pour_15 rfl rfl ?_
  refine r_aaload (μ := mX11_pour) (pc := 16) (t := 1) dX11_pour_16 (by decide) (hF _ _ rfl) rfl (by omega) (by decide) hr52 ?_
  refine s_astore_n (μ := mX11_pour) (pc := 17) (L2 := [_, _, _, _, _, _]) dX11_pour_17 rfl (Nat.le_of_ble_eq_true rfl) (Nat.le_of_ble_eq_true rfl) rfl rfl ?_
  refine r_aload_n (μ := mX11_pour) (pc := 18) dX11_pour_18 rfl rfl rfl ?_
  refine r_getI (μ := mX11_pour) (pc := 19) dX11_pour_19 fpX11_299 rfl hsa (by decide) ?_
  refine r_iconst (μ := mX11_pour) (pc := 22) (v := -1) dX11_pour_22 ic_m1 ?_
  refine r_icmp_ne (μ := mX11_pour) (pc := 23) (tgt := 30) dX11_pour_23 (by decide) (fun h_23 => absurd hs h_23) (fun h_23 => ?_)
  refine r_ldcw (μ := mX11_pour) (pc := 26) dX11_pour_26 ctX11_302 ?_
  exact r_iret (μ := mX11_pour) (pc := 29) dX11_pour_29 rfl rfl (PI_i rfl)

theorem lp_kpour {d : Nat} {sh : List Sh} {mi : MI} {mr : MR} {Q : QT} (hF : SHC sh) (hB : CB mr) {s : Rw} {n m p q : Nat} (hR : RT sh mi mr 8 s n m p q) (hI : Inv s n m p q) {k : Nat} (hk : k < 4) {z : Nat} (hz : mi (53 + 2 * k) 1 = nI z) (hz24 : z ≤ 24) (hq : ∀ mi2, (∀ x, x ≠ 9 → mi2 x = mi x) → RT sh mi2 mr 8 (pourR s (mi (54 + 2 * k)) (min z n)).1 n m p q → Q (some (.int (nI (pourR s (mi (54 + 2 * k)) (min z n)).2))) sh mi2 mr) :
    ∀ (j i : Nat), i + j = min z n → ∀ mi2, (∀ x, x ≠ 9 → mi2 x = mi x) → RT sh mi2 mr 8 (pourR s (mi (54 + 2 * k)) i).1 n m p q → ∀ x5 : Value, catL x5 = true → WP (d + 1) mX11_pour 35 [.ref 0, .int (nI k), .ref (53 + 2 * k), .int (nI (pourR s (mi (54 + 2 * k)) i).2), .int (nI i), x5] [] sh mi2 mr 0 0 Q := by
  have hn10 := hI.n10; have hm8 := hI.m8; have hp6 := hI.p6; have hq14 := hI.q14
  have hT := TB.of hF hB (Or.inl rfl)
  obtain ⟨hsa, hpa⟩ := sh_s hF hk; obtain ⟨hr52, hrp⟩ := cr_s hB hk
  intro j
  induction j with
  | zero =>
    intro i hk2 mi2 hfr hX x5 hx5
    obtain rfl : i = min z n := by omega
    have es : mi2 (53 + 2 * k) = mi (53 + 2 * k) := hfr _ (by omega)
    by_cases hzn : n ≤ z
    · rw [Nat.min_eq_right hzn] at *
      refine r_iload (μ := mX11_pour) (pc := 35) dX11_pour_35 rfl ?_
      refine r_aload_n (μ := mX11_pour) (pc := 37) dX11_pour_37 rfl rfl rfl ?_
      refine r_getR (μ := mX11_pour) (pc := 38) dX11_pour_38 fpX11_36 rfl (hF _ _ rfl) (by decide) (hB _ _ _ rfl) ?_
      refine r_getI (μ := mX11_pour) (pc := 41) dX11_pour_41 fpX11_98 rfl (hF _ _ rfl) (by decide) ?_
      rw [hX.en]
      refine r_icmp_ge (μ := mX11_pour) (pc := 44) (tgt := 117) dX11_pour_44 (by decide) (fun h_44 => ?_) (fun h_44 => absurd (nI_le (Nat.le_refl _) (by omega)) h_44)
      refine r_iload_n (μ := mX11_pour) (pc := 117) dX11_pour_117 rfl rfl ?_
      exact r_iret (μ := mX11_pour) (pc := 118) dX11_pour_118 rfl rfl (hq mi2 hfr hX)
    · rw [Nat.min_eq_left (by omega)] at *
      refine r_iload (μ := mX11_pour) (pc := 35) dX11_pour_35 rfl ?_
      refine r_aload_n (μ := mX11_pour) (pc := 37) dX11_pour_37 rfl rfl rfl ?_
      refine r_getR (μ := mX11_pour) (pc := 38) dX11_pour_38 fpX11_36 rfl (hF _ _ rfl) (by decide) (hB _ _ _ rfl) ?_
      refine r_getI (μ := mX11_pour) (pc := 41) dX11_pour_41 fpX11_98 rfl (hF _ _ rfl) (by decide) ?_
      rw [hX.en]
      refine r_icmp_ge (μ := mX11_pour) (pc := 44) (tgt := 117) dX11_pour_44 (by decide) (fun h_44 => absurd h_44 (nI_ge (by omega) (by omega))) (fun h_44 => ?_)
      refine r_iload (μ := mX11_pour) (pc := 47) dX11_pour_47 rfl ?_
      refine r_aload_n (μ := mX11_pour) (pc := 49) dX11_pour_49 rfl rfl rfl ?_
      refine r_getI (μ := mX11_pour) (pc := 50) dX11_pour_50 fpX11_303 rfl hsa (by decide) ?_
      rw [es, hz]
      refine r_icmp_ge (μ := mX11_pour) (pc := 53) (tgt := 117) dX11_pour_53 (by decide) (fun h_53 => ?_) (fun h_53 => absurd (nI_le (Nat.le_refl _) (by omega)) h_53)
      refine r_iload_n (μ := mX11_pour) (pc := 117) dX11_pour_117 rfl rfl ?_
      exact r_iret (μ := mX11_pour) (pc := 118) dX11_pour_118 rfl rfl (hq mi2 hfr hX)
  | succ j ih =>
    intro i hk2 mi2 hfr hX x5 hx5
    have hin : i < n := by omega
    have hiz : i < z := by omega
    have es : mi2 (53 + 2 * k) = mi (53 + 2 * k) := hfr _ (by omega)
    have ep : mi2 (54 + 2 * k) = mi (54 + 2 * k) := hfr _ (by omega)
    have ho : hgt (pourR s (mi (54 + 2 * k)) i).1 i = hgt s i := pourR_o i (fun j hj => by omega)
    have hle := pourR_le s (mi (54 + 2 * k)) i
    have eh : mi2 9 i = hgt s i := (hX.hg hin).trans ho
    have h1 : (pourR s (mi (54 + 2 * k)) (i + 1)).1 = upd (pourR s (mi (54 + 2 * k)) i).1 (8 + 2 * i) (pourV s (mi (54 + 2 * k)) i) := rfl
    have h2 : (pourR s (mi (54 + 2 * k)) (i + 1)).2 = (pourR s (mi (54 + 2 * k)) i).2 + (if pourV s (mi (54 + 2 * k)) i = hgt s i then 0 else 1) := rfl
    refine r_iload (μ := mX11_pour) (pc := 35) dX11_pour_35 rfl ?_
    refine r_aload_n (μ := mX11_pour) (pc := 37) dX11_pour_37 rfl rfl rfl ?_
    refine r_getR (μ := mX11_pour) (pc := 38) dX11_pour_38 fpX11_36 rfl (hF _ _ rfl) (by decide) (hB _ _ _ rfl) ?_
    refine r_getI (μ := mX11_pour) (pc := 41) dX11_pour_41 fpX11_98 rfl (hF _ _ rfl) (by decide) ?_
    rw [hX.en]
    refine r_icmp_ge (μ := mX11_pour) (pc := 44) (tgt := 117) dX11_pour_44 (by decide) (fun h_44 => absurd h_44 (nI_ge (by omega) (by omega))) (fun h_44 => ?_)
    refine r_iload (μ := mX11_pour) (pc := 47) dX11_pour_47 rfl ?_
    refine r_aload_n (μ := mX11_pour) (pc := 49) dX11_pour_49 rfl rfl rfl ?_
    refine r_getI (μ := mX11_pour) (pc := 50) dX11_pour_50 fpX11_303 rfl hsa (by decide) ?_
    rw [es, hz]
    refine r_icmp_ge (μ := mX11_pour) (pc := 53) (tgt := 117) dX11_pour_53 (by decide) (fun h_53 => absurd h_53 (nI_ge (by omega) (by omega))) (fun h_53 => ?_)
    refine r_aload_n (μ := mX11_pour) (pc := 56) dX11_pour_56 rfl rfl rfl ?_
    refine r_getR (μ := mX11_pour) (pc := 57) dX11_pour_57 fpX11_307 rfl hsa (by decide) hrp ?_
    refine r_iload (μ := mX11_pour) (pc := 60) dX11_pour_60 rfl ?_
    refine r_iaload (μ := mX11_pour) (pc := 62) (j := i) dX11_pour_62 hpa rfl (by omega) (by decide) ?_
    rw [ep]
    refine r_ldc (μ := mX11_pour) (pc := 63) dX11_pour_63 ctX11_225 ?_
    refine r_icmp_ne (μ := mX11_pour) (pc := 65) (tgt := 71) dX11_pour_65 (by decide) (fun h_65 => ?_) (fun h_65 => ?_)
    · have hv : pourV s (mi (54 + 2 * k)) i = clampT (mi (54 + 2 * k) i) 99 := by unfold pourV; rw [if_neg (show ¬ _ = NONEc from h_65)]
      refine r_iconst (μ := mX11_pour) (pc := 71) (v := 0) dX11_pour_71 ic_0 ?_
      refine r_bipush (μ := mX11_pour) (pc := 72) (v := 99) dX11_pour_72 bp_99 ?_
      refine r_aload_n (μ := mX11_pour) (pc := 74) dX11_pour_74 rfl rfl rfl ?_
      refine r_getR (μ := mX11_pour) (pc := 75) dX11_pour_75 fpX11_307 rfl hsa (by decide) hrp ?_
      refine r_iload (μ := mX11_pour) (pc := 78) dX11_pour_78 rfl ?_
      refine r_iaload (μ := mX11_pour) (pc := 80) (j := i) dX11_pour_80 hpa rfl (by omega) (by decide) ?_
      rw [ep]
      refine r_mmin (μ := mX11_pour) (pc := 81) dX11_pour_81 lkX11_123 (Nat.le_of_ble_eq_true rfl) ?_
      refine r_mmax (μ := mX11_pour) (pc := 84) dX11_pour_84 lkX11_312 (Nat.le_of_ble_eq_true rfl) ?_
      rw [mx_mn _ 99 (by decide)]
      refine s_istore (μ := mX11_pour) (pc := 87) (L2 := [_, _, _, _, _, _]) dX11_pour_87 (Nat.le_of_ble_eq_true rfl) (Nat.le_of_ble_eq_true rfl) (by simp only [List.all_cons, List.all_nil, catL_i, catL_r, hx5, Bool.and_self]) rfl ?_
      refine r_aload_n (μ := mX11_pour) (pc := 89) dX11_pour_89 rfl rfl rfl ?_
      refine r_getR (μ := mX11_pour) (pc := 90) dX11_pour_90 fpX11_36 rfl (hF _ _ rfl) (by decide) (hB _ _ _ rfl) ?_
      refine r_getR (μ := mX11_pour) (pc := 93) dX11_pour_93 fpX11_106 rfl (hF _ _ rfl) (by decide) (hB _ _ _ rfl) ?_
      refine r_iload (μ := mX11_pour) (pc := 96) dX11_pour_96 rfl ?_
      refine r_iload (μ := mX11_pour) (pc := 98) dX11_pour_98 rfl ?_
      refine sX3 (μ := mX11_pour) (pc := 100) (μ2 := mX11_exchange) dX11_pour_100 lkX11_119 stX11_exchange mwX11_exchange (Nat.le_of_ble_eq_true rfl) (k_exchange (hF _ _ rfl) rfl (show i < 10 by omega) (by decide)) (fun r_100 mi_100 h_100 => ?_)
      obtain ⟨rfl, rfl⟩ := h_100
      rw [eh]
      refine r_iload (μ := mX11_pour) (pc := 103) dX11_pour_103 rfl ?_
      refine r_icmp_eq (μ := mX11_pour) (pc := 105) (tgt := 111) dX11_pour_105 (by decide) (fun h_105 => ?_) (fun h_105 => ?_)
      · rw [if_pos (by rw [hv, h_105]), Nat.add_zero] at h2
        refine s_iinc (μ := mX11_pour) (pc := 111) (c := 1) (L2 := [_, _, _, _, _, _]) dX11_pour_111 rfl ic_1 (Nat.le_of_ble_eq_true rfl) (by simp only [List.all_cons, List.all_nil, catL_i, catL_r, hx5, Bool.and_self]) rfl ?_
        refine r_goto (μ := mX11_pour) (pc := 114) (tgt := 35) dX11_pour_114 (by decide) ?_
        exact WP.L (by rw [h2, show nI (i + 1) = nI i + 1 from nI_succ i]; first | rfl | rw [nI_succ]) (ih (i + 1) (by omega) _ (fun x hx => by rw [upI_ne hx]; exact hfr x hx) (by rw [h1, hv]; exact hX.u_hgt hn10 hm8 hp6 (by decide) (by omega)) (.int (clampT (mi (54 + 2 * k) i) 99)) rfl)
      · rw [if_neg (fun z => h_105 (by rw [← z, hv]))] at h2
        refine s_iinc (μ := mX11_pour) (pc := 108) (c := 1) (L2 := [_, _, _, _, _, _]) dX11_pour_108 rfl ic_1 (Nat.le_of_ble_eq_true rfl) (by simp only [List.all_cons, List.all_nil, catL_i, catL_r, hx5, Bool.and_self]) rfl ?_
        refine s_iinc (μ := mX11_pour) (pc := 111) (c := 1) (L2 := [_, _, _, _, _, _]) dX11_pour_111 rfl ic_1 (Nat.le_of_ble_eq_true rfl) (by simp only [List.all_cons, List.all_nil, catL_i, catL_r, hx5, Bool.and_self]) rfl ?_
        refine r_goto (μ := mX11_pour) (pc := 114) (tgt := 35) dX11_pour_114 (by decide) ?_
        exact WP.L (by rw [h2, show nI (i + 1) = nI i + 1 from nI_succ i]; first | rfl | rw [nI_succ]) (ih (i + 1) (by omega) _ (fun x hx => by rw [upI_ne hx]; exact hfr x hx) (by rw [h1, hv]; exact hX.u_hgt hn10 hm8 hp6 (by decide) (by omega)) (.int (clampT (mi (54 + 2 * k) i) 99)) rfl)
    · have hv : pourV s (mi (54 + 2 * k)) i = hgt s i := by unfold pourV; rw [if_pos (show _ = NONEc from h_65)]
      refine r_goto (μ := mX11_pour) (pc := 68) (tgt := 111) dX11_pour_68 (by decide) ?_
      refine s_iinc (μ := mX11_pour) (pc := 111) (c := 1) (L2 := [_, _, _, _, _, _]) dX11_pour_111 rfl ic_1 (Nat.le_of_ble_eq_true rfl) (by simp only [List.all_cons, List.all_nil, catL_i, catL_r, hx5, Bool.and_self]) rfl ?_
      refine r_goto (μ := mX11_pour) (pc := 114) (tgt := 35) dX11_pour_114 (by decide) ?_
      have h2 : (pourR s (mi (54 + 2 * k)) (i + 1)).2 = (pourR s (mi (54 + 2 * k)) i).2 := by simp [h2, hv]
      rw [hv, upd_same (show (pourR s (mi (54 + 2 * k)) i).1 (8 + 2 * i) = hgt s i from ho)] at h1
      exact WP.L (by rw [h2, show nI (i + 1) = nI i + 1 from nI_succ i]) (ih (i + 1) (by omega) mi2 hfr (by rw [h1]; exact hX) x5 hx5)

theorem k_pour {d : Nat} {sh : List Sh} {mi : MI} {mr : MR} (hF : SHC sh) (hB : CB mr) {s : Rw} {n m p q : Nat} (hR : RT sh mi mr 8 s n m p q) (hI : Inv s n m p q) {k : Nat} (hk : k < 4) {z : Nat} (hz : mi (53 + 2 * k) 1 = nI z) (hz24 : z ≤ 24) (hs : ¬ mi (53 + 2 * k) 0 = -1) : CP (d + 1) mX11_pour [.ref 0, .int (nI k)] sh mi mr 0 0 (PX sh mr (fun r mi2 => r = nI (pourR s (mi (54 + 2 * k)) (min z n)).2 ∧ (∀ x, x ≠ 9 → mi2 x = mi x) ∧ RT sh mi2 mr 8 (pourR s (mi (54 + 2 * k)) (min z n)).1 n m p q)) := by
  have hn10 := hI.n10; have hm8 := hI.m8; have hp6 := hI.p6; have hq14 := hI.q14
  have hT := TB.of hF hB (Or.inl rfl)
  obtain ⟨hsa, hpa⟩ := sh_s hF hk; obtain ⟨hr52, hrp⟩ := cr_s hB hk
  refine CP.of (L := [_, _, _, _, _, _]) (by decide) rfl rfl (Nat.le_of_ble_eq_true rfl) ?_
  refine r_iload_n (μ := mX11_pour) (pc := 0) dX11_pour_0 rfl rfl ?_
  refine r_iconst (μ := mX11_pour) (pc := 1) (v := 4) dX11_pour_1 ic_4 ?_
  refine sP2 (μ := mX11_pour) (pc := 2) (μ2 := mX11_within) dX11_pour_2 lkX11_93 stX11_within mwX11_within (Nat.le_of_ble_eq_true rfl) (k_within (n := 4) rfl (by decide)) ?_
  rw [inR_B _ 3]
  refine r_if_ne (μ := mX11_pour) (pc := 5) (tgt := 11) dX11_pour_5 (by decide) (fun h_5 => ?_) (fun h_5 => absurd h_5 (b2i_ne (inB_nI (by omega) (by omega))))
  refine r_aload_n (μ := mX11_pour) (pc := 11) dX11_pour_11 rfl rfl rfl ?_
  refine r_getR (μ := mX11_pour) (pc := 12) dX11_pour_12 fpX11_69 rfl (hF _ _ rfl) (by decide) (hB _ _ _ rfl) ?_
  refine r_iload_n (μ := mX11_pour) (pc := 15) dX11_pour_15 rfl rfl ?_
  refine r_aaload (μ := mX11_pour) (pc := 16) (t := 1) dX11_pour_16 (by decide) (hF _ _ rfl) rfl (by omega) (by decide) hr52 ?_
  refine s_astore_n (μ := mX11_pour) (pc := 17) (L2 := [_, _, _, _, _, _]) dX11_pour_17 rfl (Nat.le_of_ble_eq_true rfl) (Nat.le_of_ble_eq_true rfl) rfl rfl ?_
  refine r_aload_n (μ := mX11_pour) (pc := 18) dX11_pour_18 rfl rfl rfl ?_
  refine r_getI (μ := mX11_pour) (pc := 19) dX11_pour_19 fpX11_299 rfl hsa (by decide) ?_
  refine r_iconst (μ := mX11_pour) (pc := 22) (v := -1) dX11_pour_22 ic_m1 ?_
  refine r_icmp_ne (μ := mX11_pour) (pc := 23) (tgt := 30) dX11_pour_23 (by decide) (fun h_23 => ?_) (fun h_23 => absurd h_23 hs)
  refine r_iconst (μ := mX11_pour) (pc := 30) (v := 0) dX11_pour_30 ic_0 ?_
  refine s_istore_n (μ := mX11_pour) (pc := 31) (L2 := [_, _, _, _, _, _]) dX11_pour_31 rfl (Nat.le_of_ble_eq_true rfl) (Nat.le_of_ble_eq_true rfl) rfl rfl ?_
  refine r_iconst (μ := mX11_pour) (pc := 32) (v := 0) dX11_pour_32 ic_0 ?_
  refine s_istore (μ := mX11_pour) (pc := 33) (L2 := [_, _, _, _, _, _]) dX11_pour_33 (Nat.le_of_ble_eq_true rfl) (Nat.le_of_ble_eq_true rfl) rfl rfl ?_
  exact lp_kpour hF hB hR hI hk hz hz24 (fun mi2 h1 h2 => PX_i ⟨rfl, h1, h2⟩) _ 0 (Nat.zero_add _) mi (fun _ _ => rfl) hR _ rfl

