/-- a reference that nothing else changed for -/
def PR (x : Value) (sh : List Sh) (mi : MI) (mr : MR) : QT := fun v sh2 mi2 mr2 => v = some x ∧ sh2 = sh ∧ mi2 = mi ∧ mr2 = mr
theorem PR_i {x : Value} {sh : List Sh} {mi : MI} {mr : MR} {y : Value} (h : y = x) : PR x sh mi mr (some y) sh mi mr := ⟨by rw [h], rfl, rfl, rfl⟩
theorem sR1 {d : Nat} {μ μ2 : Mt} {pc : Nat} {L S : List Value} {sh : List Sh} {mi : MI} {mr : MR} {cb sb idx : Nat} {Q : QT} {x v1 : Value} (hd : decode μ.2.1 pc = .ok (.invokestatic idx, 3)) (hl2 : Cond.methodLink μ.1.cls idx μ2.1 ∈ lw_tbl) (hst : Cond.static μ2.1 ∈ lw_tbl) (hmw : MW μ2 1) (hS8 : (S.map c12).sum ≤ 8) (hcp : CP d μ2 [v1] sh mi mr 0 0 (PR x sh mi mr)) (k : WP (d + 1) μ (pc + 3) L (x :: S) sh mi mr cb sb Q) : WP (d + 1) μ pc L (v1 :: S) sh mi mr cb sb Q :=
  r_static (as := [v1]) hd rfl hl2 hst hcp hmw hS8 (by rintro v sh2 mi2 mr2 ⟨rfl, rfl, rfl, rfl⟩; exact k)
theorem vS0 {d : Nat} {μ μ2 : Mt} {pc : Nat} {L S : List Value} {sh : List Sh} {mi : MI} {mr : MR} {cb sb idx : Nat} {Q : QT} {r : Int32} {i : Nat} (hd : decode μ.2.1 pc = .ok (.invokevirtual idx, 3)) (hi : i < 6) (hl2 : Cond.methodLink μ.1.cls idx μ2.1 ∈ lw_tbl) (hi2 : Cond.instanceMethod μ2.1 ∈ lw_tbl) (hse : Cond.selects "java/lang/String" μ2.1 μ2.1 ∈ lw_tbl) (hmw : MW μ2 0) (hS8 : (S.map c12).sum ≤ 8) (hcp : CP d μ2 [.float (UInt32.ofNat (2 * i))] sh mi mr 0 0 (PI r sh mi mr)) (k : WP (d + 1) μ (pc + 3) L (.int r :: S) sh mi mr cb sb Q) : WP (d + 1) μ pc L (.float (UInt32.ofNat (2 * i)) :: S) sh mi mr cb sb Q :=
  r_virtS (as := []) hd rfl hi hl2 hi2 hse hcp hmw hS8 (by rintro v sh2 mi2 mr2 ⟨rfl, rfl, rfl, rfl⟩; exact k)
theorem vS1 {d : Nat} {μ μ2 : Mt} {pc : Nat} {L S : List Value} {sh : List Sh} {mi : MI} {mr : MR} {cb sb idx : Nat} {Q : QT} {r : Int32} {i : Nat} {v1 : Value} (hd : decode μ.2.1 pc = .ok (.invokevirtual idx, 3)) (hi : i < 6) (hl2 : Cond.methodLink μ.1.cls idx μ2.1 ∈ lw_tbl) (hi2 : Cond.instanceMethod μ2.1 ∈ lw_tbl) (hse : Cond.selects "java/lang/String" μ2.1 μ2.1 ∈ lw_tbl) (hmw : MW μ2 1) (hS8 : (S.map c12).sum ≤ 8) (hcp : CP d μ2 [.float (UInt32.ofNat (2 * i)), v1] sh mi mr 0 0 (PI r sh mi mr)) (k : WP (d + 1) μ (pc + 3) L (.int r :: S) sh mi mr cb sb Q) : WP (d + 1) μ pc L (v1 :: .float (UInt32.ofNat (2 * i)) :: S) sh mi mr cb sb Q :=
  r_virtS (as := [v1]) hd rfl hi hl2 hi2 hse hcp hmw hS8 (by rintro v sh2 mi2 mr2 ⟨rfl, rfl, rfl, rfl⟩; exact k)
theorem vS2 {d : Nat} {μ μ2 : Mt} {pc : Nat} {L S : List Value} {sh : List Sh} {mi : MI} {mr : MR} {cb sb idx : Nat} {Q : QT} {r : Int32} {i : Nat} {v1 v2 : Value} (hd : decode μ.2.1 pc = .ok (.invokevirtual idx, 3)) (hi : i < 6) (hl2 : Cond.methodLink μ.1.cls idx μ2.1 ∈ lw_tbl) (hi2 : Cond.instanceMethod μ2.1 ∈ lw_tbl) (hse : Cond.selects "java/lang/String" μ2.1 μ2.1 ∈ lw_tbl) (hmw : MW μ2 2) (hS8 : (S.map c12).sum ≤ 8) (hcp : CP d μ2 [.float (UInt32.ofNat (2 * i)), v1, v2] sh mi mr 0 0 (PI r sh mi mr)) (k : WP (d + 1) μ (pc + 3) L (.int r :: S) sh mi mr cb sb Q) : WP (d + 1) μ pc L (v2 :: v1 :: .float (UInt32.ofNat (2 * i)) :: S) sh mi mr cb sb Q :=
  r_virtS (as := [v1, v2]) hd rfl hi hl2 hi2 hse hcp hmw hS8 (by rintro v sh2 mi2 mr2 ⟨rfl, rfl, rfl, rfl⟩; exact k)
def sLen (i : Nat) : Nat := ssL.getD i 0
def sBy (i x : Nat) : Int32 := (ssB.getD i []).getD x 0
theorem sLen_s : ∀ i, i < 6 → nI (ssL.getD i 0) >>> ((0 : Int32) &&& 31) = nI (sLen i) := by decide
theorem sLen_4 : ∀ i, i < 6 → sLen i ≤ 4 ∧ 2 ≤ sLen i := by decide
theorem sBy_c : ∀ i, i < 6 → ∀ x, x < 4 → x < sLen i → ((sBy i x &&& 255).toUInt32 % 65536).toInt32 = sBy i x := by decide
theorem sBy_n : ∀ i, i < 6 → ∀ x, x < 4 → x < sLen i → narrow .char (.int (sBy i x)) = .int (sBy i x) := by
  intro i hi x hx h
  have e : ∀ i, i < 6 → ∀ x, x < 4 → x < sLen i → (sBy i x).toUInt32 % 65536 = (sBy i x).toUInt32 := by decide
  match i, hi, x, hx, h with
  | 0, _, 0, _, _ => rfl
  | 0, _, 1, _, _ => rfl
  | 0, _, 2, _, _ => rfl
  | 0, _, 3, _, _ => rfl
  | 1, _, 0, _, _ => rfl
  | 1, _, 1, _, _ => rfl
  | 1, _, 2, _, _ => rfl
  | 1, _, 3, _, _ => rfl
  | 2, _, 0, _, _ => rfl
  | 2, _, 1, _, _ => rfl
  | 2, _, 2, _, _ => rfl
  | 2, _, 3, _, _ => rfl
  | 3, _, 0, _, _ => rfl
  | 3, _, 1, _, _ => rfl
  | 4, _, 0, _, _ => rfl
  | 4, _, 1, _, _ => rfl
  | 4, _, 2, _, _ => rfl
  | 5, _, 0, _, _ => rfl
  | 5, _, 1, _, _ => rfl
  | 3, _, 2, _, h => exact absurd h (by decide)
  | 3, _, 3, _, h => exact absurd h (by decide)
  | 4, _, 3, _, h => exact absurd h (by decide)
  | 5, _, 2, _, h => exact absurd h (by decide)
  | 5, _, 3, _, h => exact absurd h (by decide)

theorem k_coder {d : Nat} {sh : List Sh} {mi : MI} {mr : MR} {i : Nat} (hi : i < 6) : CP (d) mJ0_coder_7d493 [.float (UInt32.ofNat (2 * i))] sh mi mr 0 0 (PI (0) sh mi mr) := by
  refine CP.of (L := [_]) (by decide) rfl rfl (Nat.le_of_ble_eq_true rfl) ?_
  refine r_gsC (μ := mJ0_coder_7d493) (pc := 0) dJ0_coder_7d493_0 jfJ0_38 ?_
  refine r_if_eq (μ := mJ0_coder_7d493) (pc := 3) (tgt := 13) dJ0_coder_7d493_3 (by decide) (fun h_3 => absurd h_3 (by decide)) (fun h_3 => ?_)
  refine r_aload_n (μ := mJ0_coder_7d493) (pc := 6) dJ0_coder_7d493_6 rfl rfl rfl ?_
  refine r_scod (μ := mJ0_coder_7d493) (pc := 7) dJ0_coder_7d493_7 hi jfJ0_15 ?_
  refine r_goto (μ := mJ0_coder_7d493) (pc := 10) (tgt := 14) dJ0_coder_7d493_10 (by decide) ?_
  exact r_iret (μ := mJ0_coder_7d493) (pc := 14) dJ0_coder_7d493_14 rfl rfl (PI_i rfl)

theorem k_isLatin1 {d : Nat} {sh : List Sh} {mi : MI} {mr : MR} {i : Nat} (hi : i < 6) : CP (d) mJ0_isLatin1_aae02 [.float (UInt32.ofNat (2 * i))] sh mi mr 0 0 (PI (1) sh mi mr) := by
  refine CP.of (L := [_]) (by decide) rfl rfl (Nat.le_of_ble_eq_true rfl) ?_
  refine r_gsC (μ := mJ0_isLatin1_aae02) (pc := 0) dJ0_isLatin1_aae02_0 jfJ0_38 ?_
  refine r_if_eq (μ := mJ0_isLatin1_aae02) (pc := 3) (tgt := 17) dJ0_isLatin1_aae02_3 (by decide) (fun h_3 => absurd h_3 (by decide)) (fun h_3 => ?_)
  refine r_aload_n (μ := mJ0_isLatin1_aae02) (pc := 6) dJ0_isLatin1_aae02_6 rfl rfl rfl ?_
  refine r_scod (μ := mJ0_isLatin1_aae02) (pc := 7) dJ0_isLatin1_aae02_7 hi jfJ0_15 ?_
  refine r_if_ne (μ := mJ0_isLatin1_aae02) (pc := 10) (tgt := 17) dJ0_isLatin1_aae02_10 (by decide) (fun h_10 => absurd rfl h_10) (fun h_10 => ?_)
  refine r_iconst (μ := mJ0_isLatin1_aae02) (pc := 13) (v := 1) dJ0_isLatin1_aae02_13 ic_1 ?_
  refine r_goto (μ := mJ0_isLatin1_aae02) (pc := 14) (tgt := 18) dJ0_isLatin1_aae02_14 (by decide) ?_
  exact r_iret (μ := mJ0_isLatin1_aae02) (pc := 18) dJ0_isLatin1_aae02_18 rfl rfl (PI_i rfl)

theorem k_slength {d : Nat} {sh : List Sh} {mi : MI} {mr : MR} {i : Nat} (hi : i < 6) : CP (d + 1) mJ0_length_8abf5 [.float (UInt32.ofNat (2 * i))] sh mi mr 0 0 (PI (nI (sLen i)) sh mi mr) := by
  refine CP.of (L := [_]) (by decide) rfl rfl (Nat.le_of_ble_eq_true rfl) ?_
  refine r_aload_n (μ := mJ0_length_8abf5) (pc := 0) dJ0_length_8abf5_0 rfl rfl rfl ?_
  refine r_sval (μ := mJ0_length_8abf5) (pc := 1) dJ0_length_8abf5_1 hi jfJ0_9 ?_
  refine r_slen (μ := mJ0_length_8abf5) (pc := 4) dJ0_length_8abf5_4 hi ?_
  refine r_aload_n (μ := mJ0_length_8abf5) (pc := 5) dJ0_length_8abf5_5 rfl rfl rfl ?_
  refine vS0 (μ := mJ0_length_8abf5) (pc := 6) (μ2 := mJ0_coder_7d493) (i := i) dJ0_length_8abf5_6 hi lkJ0_335 imJ0_coder_7d493 seJ0_J0_coder_7d493_J0_coder_7d493 mwJ0_coder_7d493 (Nat.le_of_ble_eq_true rfl) (k_coder hi) ?_
  refine r_ishr (μ := mJ0_length_8abf5) (pc := 9) dJ0_length_8abf5_9 ?_
  rw [sLen_s i hi]
  exact r_iret (μ := mJ0_length_8abf5) (pc := 10) dJ0_length_8abf5_10 rfl rfl (PI_i rfl)

theorem k_chk3 {d : Nat} {sh : List Sh} {mi : MI} {mr : MR} {x n : Nat} (hx : x < n) (hn : n < 100) : CP (d) mJ3_checkIndex_8e157 [.int (nI x), .int (nI n), .retAddr 0] sh mi mr 0 0 (PI (nI x) sh mi mr) := by
  refine CP.of (L := [_, _, _]) (by decide) rfl rfl (Nat.le_of_ble_eq_true rfl) ?_
  refine r_iload_n (μ := mJ3_checkIndex_8e157) (pc := 0) dJ3_checkIndex_8e157_0 rfl rfl ?_
  refine r_if_lt (μ := mJ3_checkIndex_8e157) (pc := 1) (tgt := 9) dJ3_checkIndex_8e157_1 (by decide) (fun h_1 => absurd h_1 (nI_pos (by omega))) (fun h_1 => ?_)
  refine r_iload_n (μ := mJ3_checkIndex_8e157) (pc := 4) dJ3_checkIndex_8e157_4 rfl rfl ?_
  refine r_iload_n (μ := mJ3_checkIndex_8e157) (pc := 5) dJ3_checkIndex_8e157_5 rfl rfl ?_
  refine r_icmp_lt (μ := mJ3_checkIndex_8e157) (pc := 6) (tgt := 16) dJ3_checkIndex_8e157_6 (by decide) (fun h_6 => ?_) (fun h_6 => absurd (nI_lt hx (by omega)) h_6)
  refine r_iload_n (μ := mJ3_checkIndex_8e157) (pc := 16) dJ3_checkIndex_8e157_16 rfl rfl ?_
  exact r_iret (μ := mJ3_checkIndex_8e157) (pc := 17) dJ3_checkIndex_8e157_17 rfl rfl (PI_i rfl)

theorem k_chk0 {d : Nat} {sh : List Sh} {mi : MI} {mr : MR} {x n : Nat} (hx : x < n) (hn : n < 100) : CP (d + 1) mJ0_checkIndex_df160 [.int (nI x), .int (nI n)] sh mi mr 0 0 (PV sh mr (fun mi2 => mi2 = mi)) := by
  refine CP.of (L := [_, _]) (by decide) rfl rfl (Nat.le_of_ble_eq_true rfl) ?_
  refine r_iload_n (μ := mJ0_checkIndex_df160) (pc := 0) dJ0_checkIndex_df160_0 rfl rfl ?_
  refine r_iload_n (μ := mJ0_checkIndex_df160) (pc := 1) dJ0_checkIndex_df160_1 rfl rfl ?_
  refine r_gsF (μ := mJ0_checkIndex_df160) (pc := 2) dJ0_checkIndex_df160_2 jfJ0_1053 ?_
  refine sP3 (μ := mJ0_checkIndex_df160) (pc := 5) (μ2 := mJ3_checkIndex_8e157) dJ0_checkIndex_df160_5 lkJ0_1059 stJ3_checkIndex_8e157 mwJ3_checkIndex_8e157 (Nat.le_of_ble_eq_true rfl) (k_chk3 hx hn) ?_
  refine r_pop (μ := mJ0_checkIndex_df160) (pc := 8) dJ0_checkIndex_df160_8 rfl ?_
  exact r_vret (μ := mJ0_checkIndex_df160) (pc := 9) dJ0_checkIndex_df160_9 rfl (PV_i rfl)

theorem k_chr1 {d : Nat} {sh : List Sh} {mi : MI} {mr : MR} {i : Nat} (hi : i < 6) {x : Nat} (hx : x < sLen i) : CP (d + 2) mJ1_charAt_3b067 [.float (UInt32.ofNat (2 * i + 1)), .int (nI x)] sh mi mr 0 0 (PI (sBy i x) sh mi mr) := by
  have hl := sLen_4 i hi
  have hx4 : x < 4 := Nat.lt_of_lt_of_le hx (sLen_4 i hi).1
  refine CP.of (L := [_, _]) (by decide) rfl rfl (Nat.le_of_ble_eq_true rfl) ?_
  refine r_iload_n (μ := mJ1_charAt_3b067) (pc := 0) dJ1_charAt_3b067_0 rfl rfl ?_
  refine r_aload_n (μ := mJ1_charAt_3b067) (pc := 1) dJ1_charAt_3b067_1 rfl rfl rfl ?_
  refine r_slen (μ := mJ1_charAt_3b067) (pc := 2) dJ1_charAt_3b067_2 hi ?_
  refine sV2 (μ := mJ1_charAt_3b067) (pc := 3) (μ2 := mJ0_checkIndex_df160) dJ1_charAt_3b067_3 lkJ1_9 stJ0_checkIndex_df160 mwJ0_checkIndex_df160 (Nat.le_of_ble_eq_true rfl) (k_chk0 (n := sLen i) hx (by omega)) (fun mi_3 h_3 => ?_)
  subst h_3
  refine r_aload_n (μ := mJ1_charAt_3b067) (pc := 6) dJ1_charAt_3b067_6 rfl rfl rfl ?_
  refine r_iload_n (μ := mJ1_charAt_3b067) (pc := 7) dJ1_charAt_3b067_7 rfl rfl ?_
  refine r_sbyt (μ := mJ1_charAt_3b067) (pc := 8) dJ1_charAt_3b067_8 hi (show vp_in (nI x) (sLen i) from vp_in_nI hx (by omega)) ?_
  rw [show (ssB.getD i []).getD (nI x).toNatClampNeg 0 = sBy i x from by rw [nI_clamp (by omega)]; rfl]
  refine r_sipush (μ := mJ1_charAt_3b067) (pc := 9) (v := 255) dJ1_charAt_3b067_9 sp_255 ?_
  refine r_iand (μ := mJ1_charAt_3b067) (pc := 12) dJ1_charAt_3b067_12 ?_
  refine r_i2c (μ := mJ1_charAt_3b067) (pc := 13) dJ1_charAt_3b067_13 ?_
  rw [sBy_c i hi x hx4 hx]
  exact r_iret (μ := mJ1_charAt_3b067) (pc := 14) dJ1_charAt_3b067_14 rfl (sBy_n i hi x hx4 hx) (PI_i rfl)

theorem k_charAt {d : Nat} {sh : List Sh} {mi : MI} {mr : MR} {i : Nat} (hi : i < 6) {x : Nat} (hx : x < sLen i) : CP (d + 3) mJ0_charAt_5068e [.float (UInt32.ofNat (2 * i)), .int (nI x)] sh mi mr 0 0 (PI (sBy i x) sh mi mr) := by
  have hx4 : x < 4 := Nat.lt_of_lt_of_le hx (sLen_4 i hi).1
  refine CP.of (L := [_, _]) (by decide) rfl rfl (Nat.le_of_ble_eq_true rfl) ?_
  refine r_aload_n (μ := mJ0_charAt_5068e) (pc := 0) dJ0_charAt_5068e_0 rfl rfl rfl ?_
  refine vS0 (μ := mJ0_charAt_5068e) (pc := 1) (μ2 := mJ0_isLatin1_aae02) (i := i) dJ0_charAt_5068e_1 hi lkJ0_492 imJ0_isLatin1_aae02 seJ0_J0_isLatin1_aae02_J0_isLatin1_aae02 mwJ0_isLatin1_aae02 (Nat.le_of_ble_eq_true rfl) (k_isLatin1 hi) ?_
  refine r_if_eq (μ := mJ0_charAt_5068e) (pc := 4) (tgt := 16) dJ0_charAt_5068e_4 (by decide) (fun h_4 => absurd h_4 (by decide)) (fun h_4 => ?_)
  refine r_aload_n (μ := mJ0_charAt_5068e) (pc := 7) dJ0_charAt_5068e_7 rfl rfl rfl ?_
  refine r_sval (μ := mJ0_charAt_5068e) (pc := 8) dJ0_charAt_5068e_8 hi jfJ0_9 ?_
  refine r_iload_n (μ := mJ0_charAt_5068e) (pc := 11) dJ0_charAt_5068e_11 rfl rfl ?_
  refine sP2 (μ := mJ0_charAt_5068e) (pc := 12) (μ2 := mJ1_charAt_3b067) dJ0_charAt_5068e_12 lkJ0_495 stJ1_charAt_3b067 mwJ1_charAt_3b067 (Nat.le_of_ble_eq_true rfl) (k_chr1 hi hx) ?_
  exact r_iret (μ := mJ0_charAt_5068e) (pc := 15) dJ0_charAt_5068e_15 rfl (sBy_n i hi x hx4 hx) (PI_i rfl)

def fIx (i : Nat) (c : Int32) : Nat → Nat → Int32
  | 0, _ => -1
  | k + 1, x => if sBy i x = c then nI x else fIx i c k (x + 1)
theorem b_let {c : Int32} (h : inB c 97 122 = true) : ∃ j, 97 ≤ j ∧ j ≤ 122 ∧ c = nI j := by
  have h2 : inB c 0 ((122 : Nat) : Int) = true := by
    unfold inB at h ⊢
    have h := of_decide_eq_true h
    exact decide_eq_true ⟨by omega, h.2⟩
  obtain ⟨j, hj, rfl⟩ := inB_of h2
  refine ⟨j, ?_, hj, rfl⟩
  have h := (of_decide_eq_true h).1
  rw [nI_toInt (by omega)] at h
  omega
theorem c_b {c : Int32} (h : inB c 97 122 = true) : c.toInt8.toInt32 = c ∧ (c.toUInt32 % 65536).toInt32 = c ∧ ¬ c < 0 ∧ c ≤ 255 := by
  obtain ⟨j, h1, h2, rfl⟩ := b_let h
  exact (by decide +kernel : ∀ j, j < 123 → 97 ≤ j → (nI j).toInt8.toInt32 = nI j ∧ ((nI j).toUInt32 % 65536).toInt32 = nI j ∧ ¬ nI j < 0 ∧ nI j ≤ 255) j (by omega) h1

theorem k_canEnc {d : Nat} {sh : List Sh} {mi : MI} {mr : MR} {c : Int32} (hc : inB c 97 122 = true) : CP (d) mJ1_canEncode_9a6ad [.int c] sh mi mr 0 0 (PI (1) sh mi mr) := by
  refine CP.of (L := [_]) (by decide) rfl rfl (Nat.le_of_ble_eq_true rfl) ?_
  refine r_iload_n (μ := mJ1_canEncode_9a6ad) (pc := 0) dJ1_canEncode_9a6ad_0 rfl rfl ?_
  refine r_if_lt (μ := mJ1_canEncode_9a6ad) (pc := 1) (tgt := 15) dJ1_canEncode_9a6ad_1 (by decide) (fun h_1 => absurd h_1 (c_b hc).2.2.1) (fun h_1 => ?_)
  refine r_iload_n (μ := mJ1_canEncode_9a6ad) (pc := 4) dJ1_canEncode_9a6ad_4 rfl rfl ?_
  refine r_sipush (μ := mJ1_canEncode_9a6ad) (pc := 5) (v := 255) dJ1_canEncode_9a6ad_5 sp_255 ?_
  refine r_icmp_gt (μ := mJ1_canEncode_9a6ad) (pc := 8) (tgt := 15) dJ1_canEncode_9a6ad_8 (by decide) (fun h_8 => absurd h_8 (Int32.not_lt.mpr (c_b hc).2.2.2)) (fun h_8 => ?_)
  refine r_iconst (μ := mJ1_canEncode_9a6ad) (pc := 11) (v := 1) dJ1_canEncode_9a6ad_11 ic_1 ?_
  refine r_goto (μ := mJ1_canEncode_9a6ad) (pc := 12) (tgt := 16) dJ1_canEncode_9a6ad_12 (by decide) ?_
  exact r_iret (μ := mJ1_canEncode_9a6ad) (pc := 16) dJ1_canEncode_9a6ad_16 rfl rfl (PI_i rfl)

theorem lp_ixc {d : Nat} {sh : List Sh} {mi : MI} {mr : MR} {Q : QT} {i : Nat} (hi : i < 6) {c x1 x2 : Int32} {res : Int32} (hq : Q (some (.int res)) sh mi mr) :
    ∀ (k x : Nat), x + k = sLen i → fIx i c k x = res → WP d mJ1_indexOfChar_4cfef 7 [.float (UInt32.ofNat (2 * i + 1)), .int x1, .int x2, .int (nI (sLen i)), .int c, .int (nI x)] [] sh mi mr 0 0 Q := by
  have hl := sLen_4 i hi
  intro k
  induction k with
  | zero =>
    intro x hx hr
    obtain rfl : x = sLen i := by omega
    obtain rfl : -1 = res := hr
    refine r_iload (μ := mJ1_indexOfChar_4cfef) (pc := 7) dJ1_indexOfChar_4cfef_7 rfl ?_
    refine r_iload_n (μ := mJ1_indexOfChar_4cfef) (pc := 9) dJ1_indexOfChar_4cfef_9 rfl rfl ?_
    refine r_icmp_ge (μ := mJ1_indexOfChar_4cfef) (pc := 10) (tgt := 31) dJ1_indexOfChar_4cfef_10 (by decide) (fun h_10 => ?_) (fun h_10 => absurd (nI_le (Nat.le_refl _) (by omega)) h_10)
    refine r_iconst (μ := mJ1_indexOfChar_4cfef) (pc := 31) (v := -1) dJ1_indexOfChar_4cfef_31 ic_m1 ?_
    exact r_iret (μ := mJ1_indexOfChar_4cfef) (pc := 32) dJ1_indexOfChar_4cfef_32 rfl rfl hq
  | succ k ih =>
    intro x hx hr
    have hx2 : x < sLen i := by omega
    have hr : (if sBy i x = c then nI x else fIx i c k (x + 1)) = res := hr
    refine r_iload (μ := mJ1_indexOfChar_4cfef) (pc := 7) dJ1_indexOfChar_4cfef_7 rfl ?_
    refine r_iload_n (μ := mJ1_indexOfChar_4cfef) (pc := 9) dJ1_indexOfChar_4cfef_9 rfl rfl ?_
    refine r_icmp_ge (μ := mJ1_indexOfChar_4cfef) (pc := 10) (tgt := 31) dJ1_indexOfChar_4cfef_10 (by decide) (fun h_10 => absurd h_10 (nI_ge hx2 (by omega))) (fun h_10 => ?_)
    refine r_aload_n (μ := mJ1_indexOfChar_4cfef) (pc := 13) dJ1_indexOfChar_4cfef_13 rfl rfl rfl ?_
    refine r_iload (μ := mJ1_indexOfChar_4cfef) (pc := 14) dJ1_indexOfChar_4cfef_14 rfl ?_
    refine r_sbyt (μ := mJ1_indexOfChar_4cfef) (pc := 16) dJ1_indexOfChar_4cfef_16 hi (show vp_in (nI x) (sLen i) from vp_in_nI hx2 (by omega)) ?_
    rw [show (ssB.getD i []).getD (nI x).toNatClampNeg 0 = sBy i x from by rw [nI_clamp (by omega)]; rfl]
    refine r_iload (μ := mJ1_indexOfChar_4cfef) (pc := 17) dJ1_indexOfChar_4cfef_17 rfl ?_
    refine r_icmp_ne (μ := mJ1_indexOfChar_4cfef) (pc := 19) (tgt := 25) dJ1_indexOfChar_4cfef_19 (by decide) (fun h_19 => ?_) (fun h_19 => ?_)
    · rw [if_neg h_19] at hr
      refine s_iinc (μ := mJ1_indexOfChar_4cfef) (pc := 25) (c := 1) (L2 := [_, _, _, _, _, _]) dJ1_indexOfChar_4cfef_25 rfl ic_1 (Nat.le_of_ble_eq_true rfl) rfl rfl ?_
      refine r_goto (μ := mJ1_indexOfChar_4cfef) (pc := 28) (tgt := 7) dJ1_indexOfChar_4cfef_28 (by decide) ?_
      exact WP.L (by rw [show nI (x + 1) = nI x + 1 from nI_succ x]) (ih (x + 1) (by omega) hr)
    · rw [if_pos h_19] at hr
      subst hr
      refine r_iload (μ := mJ1_indexOfChar_4cfef) (pc := 22) dJ1_indexOfChar_4cfef_22 rfl ?_
      exact r_iret (μ := mJ1_indexOfChar_4cfef) (pc := 24) dJ1_indexOfChar_4cfef_24 rfl rfl hq

theorem k_ixc {d : Nat} {sh : List Sh} {mi : MI} {mr : MR} {i : Nat} (hi : i < 6) {c : Int32} (hc : inB c 97 122 = true) : CP (d) mJ1_indexOfChar_4cfef [.float (UInt32.ofNat (2 * i + 1)), .int c, .int 0, .int (nI (sLen i))] sh mi mr 0 0 (PI (fIx i c (sLen i) 0) sh mi mr) := by
  refine CP.of (L := [_, _, _, _, _, _]) (by decide) rfl rfl (Nat.le_of_ble_eq_true rfl) ?_
  refine r_iload_n (μ := mJ1_indexOfChar_4cfef) (pc := 0) dJ1_indexOfChar_4cfef_0 rfl rfl ?_
  refine r_i2b (μ := mJ1_indexOfChar_4cfef) (pc := 1) dJ1_indexOfChar_4cfef_1 ?_
  rw [(c_b hc).1]
  refine s_istore (μ := mJ1_indexOfChar_4cfef) (pc := 2) (L2 := [_, _, _, _, _, _]) dJ1_indexOfChar_4cfef_2 (Nat.le_of_ble_eq_true rfl) (Nat.le_of_ble_eq_true rfl) rfl rfl ?_
  refine r_iload_n (μ := mJ1_indexOfChar_4cfef) (pc := 4) dJ1_indexOfChar_4cfef_4 rfl rfl ?_
  refine s_istore (μ := mJ1_indexOfChar_4cfef) (pc := 5) (L2 := [_, _, _, _, _, _]) dJ1_indexOfChar_4cfef_5 (Nat.le_of_ble_eq_true rfl) (Nat.le_of_ble_eq_true rfl) rfl rfl ?_
  exact lp_ixc hi (PI_i rfl) (sLen i) 0 (Nat.zero_add _) rfl

theorem k_ix1 {d : Nat} {sh : List Sh} {mi : MI} {mr : MR} {i : Nat} (hi : i < 6) {c : Int32} (hc : inB c 97 122 = true) : CP (d + 1) mJ1_indexOf_4cfef [.float (UInt32.ofNat (2 * i + 1)), .int c, .int 0, .int (nI (sLen i))] sh mi mr 0 0 (PI (fIx i c (sLen i) 0) sh mi mr) := by
  have hl := sLen_4 i hi
  refine CP.of (L := [_, _, _, _]) (by decide) rfl rfl (Nat.le_of_ble_eq_true rfl) ?_
  refine r_iload_n (μ := mJ1_indexOf_4cfef) (pc := 0) dJ1_indexOf_4cfef_0 rfl rfl ?_
  refine sP1 (μ := mJ1_indexOf_4cfef) (pc := 1) (μ2 := mJ1_canEncode_9a6ad) dJ1_indexOf_4cfef_1 lkJ1_88 stJ1_canEncode_9a6ad mwJ1_canEncode_9a6ad (Nat.le_of_ble_eq_true rfl) (k_canEnc hc) ?_
  refine r_if_ne (μ := mJ1_indexOf_4cfef) (pc := 4) (tgt := 9) dJ1_indexOf_4cfef_4 (by decide) (fun h_4 => ?_) (fun h_4 => absurd h_4 (by decide))
  refine r_iload_n (μ := mJ1_indexOf_4cfef) (pc := 9) dJ1_indexOf_4cfef_9 rfl rfl ?_
  refine r_iconst (μ := mJ1_indexOf_4cfef) (pc := 10) (v := 0) dJ1_indexOf_4cfef_10 ic_0 ?_
  refine r_mmax (μ := mJ1_indexOf_4cfef) (pc := 11) dJ1_indexOf_4cfef_11 lkJ1_92 (Nat.le_of_ble_eq_true rfl) ?_
  rw [show mxI 0 0 = 0 from by decide]
  refine s_istore_n (μ := mJ1_indexOf_4cfef) (pc := 14) (L2 := [_, _, _, _]) dJ1_indexOf_4cfef_14 rfl (Nat.le_of_ble_eq_true rfl) (Nat.le_of_ble_eq_true rfl) rfl rfl ?_
  refine r_iload_n (μ := mJ1_indexOf_4cfef) (pc := 15) dJ1_indexOf_4cfef_15 rfl rfl ?_
  refine r_aload_n (μ := mJ1_indexOf_4cfef) (pc := 16) dJ1_indexOf_4cfef_16 rfl rfl rfl ?_
  refine r_slen (μ := mJ1_indexOf_4cfef) (pc := 17) dJ1_indexOf_4cfef_17 hi ?_
  refine r_mmin (μ := mJ1_indexOf_4cfef) (pc := 18) dJ1_indexOf_4cfef_18 lkJ1_38 (Nat.le_of_ble_eq_true rfl) ?_
  rw [show mnI (nI (sLen i)) (nI (ssL.getD i 0)) = nI (sLen i) from ite_self _]
  refine s_istore_n (μ := mJ1_indexOf_4cfef) (pc := 21) (L2 := [_, _, _, _]) dJ1_indexOf_4cfef_21 rfl (Nat.le_of_ble_eq_true rfl) (Nat.le_of_ble_eq_true rfl) rfl rfl ?_
  refine r_iload_n (μ := mJ1_indexOf_4cfef) (pc := 22) dJ1_indexOf_4cfef_22 rfl rfl ?_
  refine r_iload_n (μ := mJ1_indexOf_4cfef) (pc := 23) dJ1_indexOf_4cfef_23 rfl rfl ?_
  refine r_icmp_lt (μ := mJ1_indexOf_4cfef) (pc := 24) (tgt := 29) dJ1_indexOf_4cfef_24 (by decide) (fun h_24 => ?_) (fun h_24 => absurd (nI_lt (a := 0) (by omega) (by omega)) h_24)
  refine r_aload_n (μ := mJ1_indexOf_4cfef) (pc := 29) dJ1_indexOf_4cfef_29 rfl rfl rfl ?_
  refine r_iload_n (μ := mJ1_indexOf_4cfef) (pc := 30) dJ1_indexOf_4cfef_30 rfl rfl ?_
  refine r_iload_n (μ := mJ1_indexOf_4cfef) (pc := 31) dJ1_indexOf_4cfef_31 rfl rfl ?_
  refine r_iload_n (μ := mJ1_indexOf_4cfef) (pc := 32) dJ1_indexOf_4cfef_32 rfl rfl ?_
  refine sP4 (μ := mJ1_indexOf_4cfef) (pc := 33) (μ2 := mJ1_indexOfChar_4cfef) dJ1_indexOf_4cfef_33 lkJ1_95 stJ1_indexOfChar_4cfef mwJ1_indexOfChar_4cfef (Nat.le_of_ble_eq_true rfl) (k_ixc hi hc) ?_
  exact r_iret (μ := mJ1_indexOf_4cfef) (pc := 36) dJ1_indexOf_4cfef_36 rfl rfl (PI_i rfl)

theorem k_ix2 {d : Nat} {sh : List Sh} {mi : MI} {mr : MR} {i : Nat} (hi : i < 6) {c : Int32} (hc : inB c 97 122 = true) : CP (d + 2) mJ0_indexOf_7cf53 [.float (UInt32.ofNat (2 * i)), .int c, .int 0] sh mi mr 0 0 (PI (fIx i c (sLen i) 0) sh mi mr) := by
  refine CP.of (L := [_, _, _]) (by decide) rfl rfl (Nat.le_of_ble_eq_true rfl) ?_
  refine r_aload_n (μ := mJ0_indexOf_7cf53) (pc := 0) dJ0_indexOf_7cf53_0 rfl rfl rfl ?_
  refine vS0 (μ := mJ0_indexOf_7cf53) (pc := 1) (μ2 := mJ0_isLatin1_aae02) (i := i) dJ0_indexOf_7cf53_1 hi lkJ0_492 imJ0_isLatin1_aae02 seJ0_J0_isLatin1_aae02_J0_isLatin1_aae02 mwJ0_isLatin1_aae02 (Nat.le_of_ble_eq_true rfl) (k_isLatin1 hi) ?_
  refine r_if_eq (μ := mJ0_indexOf_7cf53) (pc := 4) (tgt := 23) dJ0_indexOf_7cf53_4 (by decide) (fun h_4 => absurd h_4 (by decide)) (fun h_4 => ?_)
  refine r_aload_n (μ := mJ0_indexOf_7cf53) (pc := 7) dJ0_indexOf_7cf53_7 rfl rfl rfl ?_
  refine r_sval (μ := mJ0_indexOf_7cf53) (pc := 8) dJ0_indexOf_7cf53_8 hi jfJ0_9 ?_
  refine r_iload_n (μ := mJ0_indexOf_7cf53) (pc := 11) dJ0_indexOf_7cf53_11 rfl rfl ?_
  refine r_iload_n (μ := mJ0_indexOf_7cf53) (pc := 12) dJ0_indexOf_7cf53_12 rfl rfl ?_
  refine r_aload_n (μ := mJ0_indexOf_7cf53) (pc := 13) dJ0_indexOf_7cf53_13 rfl rfl rfl ?_
  refine vS0 (μ := mJ0_indexOf_7cf53) (pc := 14) (μ2 := mJ0_length_8abf5) (i := i) dJ0_indexOf_7cf53_14 hi lkJ0_505 imJ0_length_8abf5 seJ0_J0_length_8abf5_J0_length_8abf5 mwJ0_length_8abf5 (Nat.le_of_ble_eq_true rfl) (k_slength hi) ?_
  refine sP4 (μ := mJ0_indexOf_7cf53) (pc := 17) (μ2 := mJ1_indexOf_4cfef) dJ0_indexOf_7cf53_17 lkJ0_637 stJ1_indexOf_4cfef mwJ1_indexOf_4cfef (Nat.le_of_ble_eq_true rfl) (k_ix1 hi hc) ?_
  refine r_goto (μ := mJ0_indexOf_7cf53) (pc := 20) (tgt := 36) dJ0_indexOf_7cf53_20 (by decide) ?_
  exact r_iret (μ := mJ0_indexOf_7cf53) (pc := 36) dJ0_indexOf_7cf53_36 rfl rfl (PI_i rfl)

theorem k_ix {d : Nat} {sh : List Sh} {mi : MI} {mr : MR} {i : Nat} (hi : i < 6) {c : Int32} (hc : inB c 97 122 = true) : CP (d + 3) mJ0_indexOf_0f7a4 [.float (UInt32.ofNat (2 * i)), .int c] sh mi mr 0 0 (PI (fIx i c (sLen i) 0) sh mi mr) := by
  refine CP.of (L := [_, _]) (by decide) rfl rfl (Nat.le_of_ble_eq_true rfl) ?_
  refine r_aload_n (μ := mJ0_indexOf_0f7a4) (pc := 0) dJ0_indexOf_0f7a4_0 rfl rfl rfl ?_
  refine r_iload_n (μ := mJ0_indexOf_0f7a4) (pc := 1) dJ0_indexOf_0f7a4_1 rfl rfl ?_
  refine r_iconst (μ := mJ0_indexOf_0f7a4) (pc := 2) (v := 0) dJ0_indexOf_0f7a4_2 ic_0 ?_
  refine vS2 (μ := mJ0_indexOf_0f7a4) (pc := 3) (μ2 := mJ0_indexOf_7cf53) (i := i) dJ0_indexOf_0f7a4_3 hi lkJ0_633 imJ0_indexOf_7cf53 seJ0_J0_indexOf_7cf53_J0_indexOf_7cf53 mwJ0_indexOf_7cf53 (Nat.le_of_ble_eq_true rfl) (k_ix2 hi hc) ?_
  exact r_iret (μ := mJ0_indexOf_0f7a4) (pc := 6) dJ0_indexOf_0f7a4_6 rfl rfl (PI_i rfl)

theorem inB_lo {v : Int32} {a : Nat} {lo hi : Int} (h : v < nI a) (ha : a < 1000) (hl : lo = (a : Int)) : inB v lo hi = false := by
  unfold inB
  refine decide_eq_false (fun z => ?_)
  have h := Int32.lt_iff_toInt_lt.mp h
  rw [nI_toInt (by omega)] at h
  omega
theorem inB_hi {v : Int32} {a : Nat} {lo hi : Int} (h : nI a < v) (ha : a < 1000) (hl : hi = (a : Int)) : inB v lo hi = false := by
  unfold inB
  refine decide_eq_false (fun z => ?_)
  have h := Int32.lt_iff_toInt_lt.mp h
  rw [nI_toInt (by omega)] at h
  omega
theorem inB_t {v : Int32} {a b : Nat} {lo hi : Int} (h1 : ¬ v < nI a) (h2 : ¬ nI b < v) (ha : a < 1000) (hb : b < 1000) (hl : lo = (a : Int)) (hh : hi = (b : Int)) : inB v lo hi = true := by
  unfold inB
  refine decide_eq_true ⟨?_, ?_⟩
  · have h := Int32.le_iff_toInt_le.mp (Int32.not_lt.mp h1)
    rw [nI_toInt (by omega)] at h
    omega
  · have h := Int32.le_iff_toInt_le.mp (Int32.not_lt.mp h2)
    rw [nI_toInt (by omega)] at h
    omega

theorem k_isLetter {d : Nat} {sh : List Sh} {mi : MI} {mr : MR} {v : Int32} : CP (d) mX5_isLetter [.int v] sh mi mr 0 0 (PI (b2i (inB v 97 122)) sh mi mr) := by
  refine CP.of (L := [_]) (by decide) rfl rfl (Nat.le_of_ble_eq_true rfl) ?_
  refine r_iload_n (μ := mX5_isLetter) (pc := 0) dX5_isLetter_0 rfl rfl ?_
  refine r_bipush (μ := mX5_isLetter) (pc := 1) (v := 97) dX5_isLetter_1 bp_97 ?_
  refine r_icmp_lt (μ := mX5_isLetter) (pc := 3) (tgt := 16) dX5_isLetter_3 (by decide) (fun h_3 => ?_) (fun h_3 => ?_)
  · have hz : inB v 97 122 = false := inB_lo (a := 97) h_3 (by decide) rfl
    refine r_iconst (μ := mX5_isLetter) (pc := 16) (v := 0) dX5_isLetter_16 ic_0 ?_
    exact r_iret (μ := mX5_isLetter) (pc := 17) dX5_isLetter_17 rfl rfl (PI_i (by rw [hz]; rfl))
  · refine r_iload_n (μ := mX5_isLetter) (pc := 6) dX5_isLetter_6 rfl rfl ?_
    refine r_bipush (μ := mX5_isLetter) (pc := 7) (v := 122) dX5_isLetter_7 bp_122 ?_
    refine r_icmp_gt (μ := mX5_isLetter) (pc := 9) (tgt := 16) dX5_isLetter_9 (by decide) (fun h_9 => ?_) (fun h_9 => ?_)
    · have hz : inB v 97 122 = false := inB_hi (a := 122) h_9 (by decide) rfl
      refine r_iconst (μ := mX5_isLetter) (pc := 16) (v := 0) dX5_isLetter_16 ic_0 ?_
      exact r_iret (μ := mX5_isLetter) (pc := 17) dX5_isLetter_17 rfl rfl (PI_i (by rw [hz]; rfl))
    · have hz : inB v 97 122 = true := inB_t (a := 97) (b := 122) h_3 h_9 (by decide) (by decide) rfl rfl
      refine r_iconst (μ := mX5_isLetter) (pc := 12) (v := 1) dX5_isLetter_12 ic_1 ?_
      refine r_goto (μ := mX5_isLetter) (pc := 13) (tgt := 17) dX5_isLetter_13 (by decide) ?_
      exact r_iret (μ := mX5_isLetter) (pc := 17) dX5_isLetter_17 rfl rfl (PI_i (by rw [hz]; rfl))

theorem k_isDigit {d : Nat} {sh : List Sh} {mi : MI} {mr : MR} {v : Int32} : CP (d) mX5_isDigit [.int v] sh mi mr 0 0 (PI (b2i (inB v 48 57)) sh mi mr) := by
  refine CP.of (L := [_]) (by decide) rfl rfl (Nat.le_of_ble_eq_true rfl) ?_
  refine r_iload_n (μ := mX5_isDigit) (pc := 0) dX5_isDigit_0 rfl rfl ?_
  refine r_bipush (μ := mX5_isDigit) (pc := 1) (v := 48) dX5_isDigit_1 bp_48 ?_
  refine r_icmp_lt (μ := mX5_isDigit) (pc := 3) (tgt := 16) dX5_isDigit_3 (by decide) (fun h_3 => ?_) (fun h_3 => ?_)
  · have hz : inB v 48 57 = false := inB_lo (a := 48) h_3 (by decide) rfl
    refine r_iconst (μ := mX5_isDigit) (pc := 16) (v := 0) dX5_isDigit_16 ic_0 ?_
    exact r_iret (μ := mX5_isDigit) (pc := 17) dX5_isDigit_17 rfl rfl (PI_i (by rw [hz]; rfl))
  · refine r_iload_n (μ := mX5_isDigit) (pc := 6) dX5_isDigit_6 rfl rfl ?_
    refine r_bipush (μ := mX5_isDigit) (pc := 7) (v := 57) dX5_isDigit_7 bp_57 ?_
    refine r_icmp_gt (μ := mX5_isDigit) (pc := 9) (tgt := 16) dX5_isDigit_9 (by decide) (fun h_9 => ?_) (fun h_9 => ?_)
    · have hz : inB v 48 57 = false := inB_hi (a := 57) h_9 (by decide) rfl
      refine r_iconst (μ := mX5_isDigit) (pc := 16) (v := 0) dX5_isDigit_16 ic_0 ?_
      exact r_iret (μ := mX5_isDigit) (pc := 17) dX5_isDigit_17 rfl rfl (PI_i (by rw [hz]; rfl))
    · have hz : inB v 48 57 = true := inB_t (a := 48) (b := 57) h_3 h_9 (by decide) (by decide) rfl rfl
      refine r_iconst (μ := mX5_isDigit) (pc := 12) (v := 1) dX5_isDigit_12 ic_1 ?_
      refine r_goto (μ := mX5_isDigit) (pc := 13) (tgt := 17) dX5_isDigit_13 (by decide) ?_
      exact r_iret (μ := mX5_isDigit) (pc := 17) dX5_isDigit_17 rfl rfl (PI_i (by rw [hz]; rfl))

theorem k_keyWord {d : Nat} {sh : List Sh} {mi : MI} {mr : MR} {kt : Nat} (hkt : kt < 3) : CP d mX5_keyWord [.int (nI kt)] sh mi mr 0 0 (PR (.float (UInt32.ofNat (2 * kt))) sh mi mr) := by
  refine CP.of (L := [_]) (by decide) rfl rfl (Nat.le_of_ble_eq_true rfl) ?_
  refine r_iload_n (μ := mX5_keyWord) (pc := 0) dX5_keyWord_0 rfl rfl ?_
  refine r_if_ne (μ := mX5_keyWord) (pc := 1) (tgt := 9) dX5_keyWord_1 (by decide) (fun h_1 => ?_) (fun h_1 => ?_)
  · have h1 : ¬ kt = 0 := fun z => h_1 (by rw [z]; rfl)
    refine r_iload_n (μ := mX5_keyWord) (pc := 9) dX5_keyWord_9 rfl rfl ?_
    refine r_iconst (μ := mX5_keyWord) (pc := 10) (v := 1) dX5_keyWord_10 ic_1 ?_
    refine r_icmp_ne (μ := mX5_keyWord) (pc := 11) (tgt := 19) dX5_keyWord_11 (by decide) (fun h_11 => ?_) (fun h_11 => ?_)
    · have h2 : ¬ kt = 1 := fun z => h_11 (by rw [z]; rfl)
      obtain rfl : kt = 2 := by omega
      refine r_ldcS (μ := mX5_keyWord) (pc := 19) (i := 2) dX5_keyWord_19 rfl (by decide) rfl ?_
      exact r_aret (μ := mX5_keyWord) (pc := 21) dX5_keyWord_21 rfl (Or.inl ⟨_, rfl⟩) rfl (PR_i rfl)
    · obtain rfl : kt = 1 := (nI_eq (b := 1) (by omega) (by decide)).mp h_11
      refine r_ldcS (μ := mX5_keyWord) (pc := 14) (i := 1) dX5_keyWord_14 rfl (by decide) rfl ?_
      refine r_goto (μ := mX5_keyWord) (pc := 16) (tgt := 21) dX5_keyWord_16 (by decide) ?_
      exact r_aret (μ := mX5_keyWord) (pc := 21) dX5_keyWord_21 rfl (Or.inl ⟨_, rfl⟩) rfl (PR_i rfl)
  · obtain rfl : kt = 0 := (nI_eq (b := 0) (by omega) (by decide)).mp h_1
    refine r_ldcS (μ := mX5_keyWord) (pc := 4) (i := 0) dX5_keyWord_4 rfl (by decide) rfl ?_
    refine r_goto (μ := mX5_keyWord) (pc := 6) (tgt := 21) dX5_keyWord_6 (by decide) ?_
    exact r_aret (μ := mX5_keyWord) (pc := 21) dX5_keyWord_21 rfl (Or.inl ⟨_, rfl⟩) rfl (PR_i rfl)

theorem k_namesOf {d : Nat} {sh : List Sh} {mi : MI} {mr : MR} {kt : Nat} (hkt : kt < 3) : CP d mX5_namesOf [.int (nI kt)] sh mi mr 0 0 (PR (.float (UInt32.ofNat (2 * (3 + kt)))) sh mi mr) := by
  refine CP.of (L := [_]) (by decide) rfl rfl (Nat.le_of_ble_eq_true rfl) ?_
  refine r_iload_n (μ := mX5_namesOf) (pc := 0) dX5_namesOf_0 rfl rfl ?_
  refine r_if_ne (μ := mX5_namesOf) (pc := 1) (tgt := 9) dX5_namesOf_1 (by decide) (fun h_1 => ?_) (fun h_1 => ?_)
  · have h1 : ¬ kt = 0 := fun z => h_1 (by rw [z]; rfl)
    refine r_iload_n (μ := mX5_namesOf) (pc := 9) dX5_namesOf_9 rfl rfl ?_
    refine r_iconst (μ := mX5_namesOf) (pc := 10) (v := 1) dX5_namesOf_10 ic_1 ?_
    refine r_icmp_ne (μ := mX5_namesOf) (pc := 11) (tgt := 19) dX5_namesOf_11 (by decide) (fun h_11 => ?_) (fun h_11 => ?_)
    · have h2 : ¬ kt = 1 := fun z => h_11 (by rw [z]; rfl)
      obtain rfl : kt = 2 := by omega
      refine r_ldcS (μ := mX5_namesOf) (pc := 19) (i := 5) dX5_namesOf_19 rfl (by decide) rfl ?_
      exact r_aret (μ := mX5_namesOf) (pc := 21) dX5_namesOf_21 rfl (Or.inl ⟨_, rfl⟩) rfl (PR_i rfl)
    · obtain rfl : kt = 1 := (nI_eq (b := 1) (by omega) (by decide)).mp h_11
      refine r_ldcS (μ := mX5_namesOf) (pc := 14) (i := 4) dX5_namesOf_14 rfl (by decide) rfl ?_
      refine r_goto (μ := mX5_namesOf) (pc := 16) (tgt := 21) dX5_namesOf_16 (by decide) ?_
      exact r_aret (μ := mX5_namesOf) (pc := 21) dX5_namesOf_21 rfl (Or.inl ⟨_, rfl⟩) rfl (PR_i rfl)
  · obtain rfl : kt = 0 := (nI_eq (b := 0) (by omega) (by decide)).mp h_1
    refine r_ldcS (μ := mX5_namesOf) (pc := 4) (i := 3) dX5_namesOf_4 rfl (by decide) rfl ?_
    refine r_goto (μ := mX5_namesOf) (pc := 6) (tgt := 21) dX5_namesOf_6 (by decide) ?_
    exact r_aret (μ := mX5_namesOf) (pc := 21) dX5_namesOf_21 rfl (Or.inl ⟨_, rfl⟩) rfl (PR_i rfl)

