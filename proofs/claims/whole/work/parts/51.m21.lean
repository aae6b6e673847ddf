def ltB (tp : Nat) (T : Rw) (i : Nat) : Bool := decide (i < tp) && inB (T i) 97 122
def dgB (tp : Nat) (T : Rw) (i : Nat) : Bool := decide (i < tp) && inB (T i) 48 57
def nmB (key c : Int32) : Bool := if key = 0 then decide (c = 104) || decide (c = 112) else if key = 1 then decide (c = 115) || decide (c = 108) || decide (c = 100) else decide (c = 109) || decide (c = 110)

theorem c_isLetter {d : Nat} {mi : MI} {mr : MR} (hM : MB mr) {tp i : Nat} (ht : mi 0 17 = nI tp) (ht96 : tp ≤ 96) (hi : i ≤ 96) : CP (d + 1) mX12_isLetter [.ref 0, .int (nI i)] shM mi mr 0 0 (PI (b2i (ltB tp (mi 13) i)) shM mi mr) := by
  refine CP.of (L := [_, _]) (by decide) rfl rfl (Nat.le_of_ble_eq_true rfl) ?_
  refine r_iload_n (μ := mX12_isLetter) (pc := 0) dX12_isLetter_0 rfl rfl ?_
  refine r_aload_n (μ := mX12_isLetter) (pc := 1) dX12_isLetter_1 rfl rfl rfl ?_
  refine r_getI (μ := mX12_isLetter) (pc := 2) dX12_isLetter_2 fpX12_215 rfl rfl (by decide) ?_
  rw [ht]
  refine r_icmp_ge (μ := mX12_isLetter) (pc := 5) (tgt := 31) dX12_isLetter_5 (by decide) (fun h_5 => ?_) (fun h_5 => ?_)
  · have h5 := (nI_leI (by omega) (by omega)).mp h_5
    have hz : ltB tp (mi 13) i = false := by unfold ltB; rw [decide_eq_false (by omega)]; rfl
    refine r_iconst (μ := mX12_isLetter) (pc := 31) (v := 0) dX12_isLetter_31 ic_0 ?_
    exact r_iret (μ := mX12_isLetter) (pc := 32) dX12_isLetter_32 rfl rfl (PI_i (by rw [hz]; rfl))
  · have h5 : i < tp := by have := mt (nI_leI (by omega) (by omega)).mpr h_5; omega
    refine r_aload_n (μ := mX12_isLetter) (pc := 8) dX12_isLetter_8 rfl rfl rfl ?_
    refine r_getR (μ := mX12_isLetter) (pc := 9) dX12_isLetter_9 fpX12_46 rfl rfl (by decide) (hM _ _ rfl) ?_
    refine r_iload_n (μ := mX12_isLetter) (pc := 12) dX12_isLetter_12 rfl rfl ?_
    refine r_iaload (μ := mX12_isLetter) (pc := 13) (j := i) dX12_isLetter_13 rfl rfl (by show i < 96; omega) (by decide) ?_
    refine r_i2l (μ := mX12_isLetter) (pc := 14) dX12_isLetter_14 ?_
    refine r_ldc2 (μ := mX12_isLetter) (pc := 15) dX12_isLetter_15 clX12_218 ?_
    refine r_ldc2 (μ := mX12_isLetter) (pc := 18) dX12_isLetter_18 clX12_220 ?_
    refine sP3 (μ := mX12_isLetter) (pc := 21) (μ2 := mX12_isIn) dX12_isLetter_21 lkX12_65 stX12_isIn mwX12_isIn (Nat.le_of_ble_eq_true rfl) (c_isInK il_97 il_122) ?_
    refine r_if_eq (μ := mX12_isLetter) (pc := 24) (tgt := 31) dX12_isLetter_24 (by decide) (fun h_24 => ?_) (fun h_24 => ?_)
    · have h_24 := b2i_0 h_24
      have hz : ltB tp (mi 13) i = false := by unfold ltB; rw [h_24, Bool.and_false]
      refine r_iconst (μ := mX12_isLetter) (pc := 31) (v := 0) dX12_isLetter_31 ic_0 ?_
      exact r_iret (μ := mX12_isLetter) (pc := 32) dX12_isLetter_32 rfl rfl (PI_i (by rw [hz]; rfl))
    · have h_24 := b2i_1 h_24
      have hz : ltB tp (mi 13) i = true := by unfold ltB; rw [h_24, decide_eq_true h5]; rfl
      refine r_iconst (μ := mX12_isLetter) (pc := 27) (v := 1) dX12_isLetter_27 ic_1 ?_
      refine r_goto (μ := mX12_isLetter) (pc := 28) (tgt := 32) dX12_isLetter_28 (by decide) ?_
      exact r_iret (μ := mX12_isLetter) (pc := 32) dX12_isLetter_32 rfl rfl (PI_i (by rw [hz]; rfl))

theorem c_isDigit {d : Nat} {mi : MI} {mr : MR} (hM : MB mr) {tp i : Nat} (ht : mi 0 17 = nI tp) (ht96 : tp ≤ 96) (hi : i ≤ 96) : CP (d + 1) mX12_isDigit [.ref 0, .int (nI i)] shM mi mr 0 0 (PI (b2i (dgB tp (mi 13) i)) shM mi mr) := by
  refine CP.of (L := [_, _]) (by decide) rfl rfl (Nat.le_of_ble_eq_true rfl) ?_
  refine r_iload_n (μ := mX12_isDigit) (pc := 0) dX12_isDigit_0 rfl rfl ?_
  refine r_aload_n (μ := mX12_isDigit) (pc := 1) dX12_isDigit_1 rfl rfl rfl ?_
  refine r_getI (μ := mX12_isDigit) (pc := 2) dX12_isDigit_2 fpX12_215 rfl rfl (by decide) ?_
  rw [ht]
  refine r_icmp_ge (μ := mX12_isDigit) (pc := 5) (tgt := 31) dX12_isDigit_5 (by decide) (fun h_5 => ?_) (fun h_5 => ?_)
  · have h5 := (nI_leI (by omega) (by omega)).mp h_5
    have hz : dgB tp (mi 13) i = false := by unfold dgB; rw [decide_eq_false (by omega)]; rfl
    refine r_iconst (μ := mX12_isDigit) (pc := 31) (v := 0) dX12_isDigit_31 ic_0 ?_
    exact r_iret (μ := mX12_isDigit) (pc := 32) dX12_isDigit_32 rfl rfl (PI_i (by rw [hz]; rfl))
  · have h5 : i < tp := by have := mt (nI_leI (by omega) (by omega)).mpr h_5; omega
    refine r_aload_n (μ := mX12_isDigit) (pc := 8) dX12_isDigit_8 rfl rfl rfl ?_
    refine r_getR (μ := mX12_isDigit) (pc := 9) dX12_isDigit_9 fpX12_46 rfl rfl (by decide) (hM _ _ rfl) ?_
    refine r_iload_n (μ := mX12_isDigit) (pc := 12) dX12_isDigit_12 rfl rfl ?_
    refine r_iaload (μ := mX12_isDigit) (pc := 13) (j := i) dX12_isDigit_13 rfl rfl (by show i < 96; omega) (by decide) ?_
    refine r_i2l (μ := mX12_isDigit) (pc := 14) dX12_isDigit_14 ?_
    refine r_ldc2 (μ := mX12_isDigit) (pc := 15) dX12_isDigit_15 clX12_222 ?_
    refine r_ldc2 (μ := mX12_isDigit) (pc := 18) dX12_isDigit_18 clX12_224 ?_
    refine sP3 (μ := mX12_isDigit) (pc := 21) (μ2 := mX12_isIn) dX12_isDigit_21 lkX12_65 stX12_isIn mwX12_isIn (Nat.le_of_ble_eq_true rfl) (c_isInK il_48 il_57) ?_
    refine r_if_eq (μ := mX12_isDigit) (pc := 24) (tgt := 31) dX12_isDigit_24 (by decide) (fun h_24 => ?_) (fun h_24 => ?_)
    · have h_24 := b2i_0 h_24
      have hz : dgB tp (mi 13) i = false := by unfold dgB; rw [h_24, Bool.and_false]
      refine r_iconst (μ := mX12_isDigit) (pc := 31) (v := 0) dX12_isDigit_31 ic_0 ?_
      exact r_iret (μ := mX12_isDigit) (pc := 32) dX12_isDigit_32 rfl rfl (PI_i (by rw [hz]; rfl))
    · have h_24 := b2i_1 h_24
      have hz : dgB tp (mi 13) i = true := by unfold dgB; rw [h_24, decide_eq_true h5]; rfl
      refine r_iconst (μ := mX12_isDigit) (pc := 27) (v := 1) dX12_isDigit_27 ic_1 ?_
      refine r_goto (μ := mX12_isDigit) (pc := 28) (tgt := 32) dX12_isDigit_28 (by decide) ?_
      exact r_iret (μ := mX12_isDigit) (pc := 32) dX12_isDigit_32 rfl rfl (PI_i (by rw [hz]; rfl))

theorem c_isSign {d : Nat} {mi : MI} {mr : MR} (hM : MB mr) {c : Int32} : CP (d) mX12_isSign [.ref 0, .int c] shM mi mr 0 0 (PI (b2i (decide (mi 0 20 = 3) && decide (mi 0 22 = c))) shM mi mr) := by
  refine CP.of (L := [_, _]) (by decide) rfl rfl (Nat.le_of_ble_eq_true rfl) ?_
  refine r_aload_n (μ := mX12_isSign) (pc := 0) dX12_isSign_0 rfl rfl rfl ?_
  refine r_getI (μ := mX12_isSign) (pc := 1) dX12_isSign_1 fpX12_229 rfl rfl (by decide) ?_
  refine r_iconst (μ := mX12_isSign) (pc := 4) (v := 3) dX12_isSign_4 ic_3 ?_
  refine r_icmp_ne (μ := mX12_isSign) (pc := 5) (tgt := 20) dX12_isSign_5 (by decide) (fun h_5 => ?_) (fun h_5 => ?_)
  · refine r_iconst (μ := mX12_isSign) (pc := 20) (v := 0) dX12_isSign_20 ic_0 ?_
    exact r_iret (μ := mX12_isSign) (pc := 21) dX12_isSign_21 rfl rfl (PI_i (by simp [b2i, *]))
  · refine r_aload_n (μ := mX12_isSign) (pc := 8) dX12_isSign_8 rfl rfl rfl ?_
    refine r_getI (μ := mX12_isSign) (pc := 9) dX12_isSign_9 fpX12_238 rfl rfl (by decide) ?_
    refine r_iload_n (μ := mX12_isSign) (pc := 12) dX12_isSign_12 rfl rfl ?_
    refine r_icmp_ne (μ := mX12_isSign) (pc := 13) (tgt := 20) dX12_isSign_13 (by decide) (fun h_13 => ?_) (fun h_13 => ?_)
    · refine r_iconst (μ := mX12_isSign) (pc := 20) (v := 0) dX12_isSign_20 ic_0 ?_
      exact r_iret (μ := mX12_isSign) (pc := 21) dX12_isSign_21 rfl rfl (PI_i (by simp [b2i, *]))
    · refine r_iconst (μ := mX12_isSign) (pc := 16) (v := 1) dX12_isSign_16 ic_1 ?_
      refine r_goto (μ := mX12_isSign) (pc := 17) (tgt := 21) dX12_isSign_17 (by decide) ?_
      exact r_iret (μ := mX12_isSign) (pc := 21) dX12_isSign_21 rfl rfl (PI_i (by simp [b2i, *]))

theorem c_step {d : Nat} {mi : MI} {mr : MR} (hM : MB mr) {at_ ld : Nat} (ha : mi 0 26 = nI at_) (hl : mi 0 25 = nI ld) (hb : at_ + 2 * ld + 1 < 3080) {w v : Int32} : CP (d) mX12_step [.ref 0, .int w, .int v] shM mi mr 0 0 (PV shM mr (fun mi2 => mi2 = upI (upI (upI mi 1 (at_ + 2 * ld) w) 1 (at_ + 2 * ld + 1) v) 0 25 (nI (ld + 1)))) := by
  refine CP.of (L := [_, _, _]) (by decide) rfl rfl (Nat.le_of_ble_eq_true rfl) ?_
  refine r_aload_n (μ := mX12_step) (pc := 0) dX12_step_0 rfl rfl rfl ?_
  refine r_getR (μ := mX12_step) (pc := 1) dX12_step_1 fpX12_7 rfl rfl (by decide) (hM _ _ rfl) ?_
  refine r_aload_n (μ := mX12_step) (pc := 4) dX12_step_4 rfl rfl rfl ?_
  refine r_getI (μ := mX12_step) (pc := 5) dX12_step_5 fpX12_251 rfl rfl (by decide) ?_
  rw [ha]
  refine r_iconst (μ := mX12_step) (pc := 8) (v := 2) dX12_step_8 ic_2 ?_
  refine r_aload_n (μ := mX12_step) (pc := 9) dX12_step_9 rfl rfl rfl ?_
  refine r_getI (μ := mX12_step) (pc := 10) dX12_step_10 fpX12_254 rfl rfl (by decide) ?_
  rw [hl]
  refine r_imul (μ := mX12_step) (pc := 13) dX12_step_13 ?_
  refine r_iadd (μ := mX12_step) (pc := 14) dX12_step_14 ?_
  refine r_iload_n (μ := mX12_step) (pc := 15) dX12_step_15 rfl rfl ?_
  refine r_iastore (μ := mX12_step) (pc := 16) (j := (at_ + 2 * ld)) dX12_step_16 rfl (by simp only [← nI_add, ← pk_mul] <;> rfl) (by show _ < 3080; omega) (by decide) ?_
  refine r_aload_n (μ := mX12_step) (pc := 17) dX12_step_17 rfl rfl rfl ?_
  refine r_getR (μ := mX12_step) (pc := 18) dX12_step_18 fpX12_7 rfl rfl (by decide) (hM _ _ rfl) ?_
  refine r_aload_n (μ := mX12_step) (pc := 21) dX12_step_21 rfl rfl rfl ?_
  refine r_getI (μ := mX12_step) (pc := 22) dX12_step_22 fpX12_251 rfl rfl (by decide) ?_
  rw [upI_ne (by decide), ha]
  refine r_iconst (μ := mX12_step) (pc := 25) (v := 2) dX12_step_25 ic_2 ?_
  refine r_aload_n (μ := mX12_step) (pc := 26) dX12_step_26 rfl rfl rfl ?_
  refine r_getI (μ := mX12_step) (pc := 27) dX12_step_27 fpX12_254 rfl rfl (by decide) ?_
  rw [upI_ne (by decide), hl]
  refine r_imul (μ := mX12_step) (pc := 30) dX12_step_30 ?_
  refine r_iadd (μ := mX12_step) (pc := 31) dX12_step_31 ?_
  refine r_iconst (μ := mX12_step) (pc := 32) (v := 1) dX12_step_32 ic_1 ?_
  refine r_iadd (μ := mX12_step) (pc := 33) dX12_step_33 ?_
  refine r_iload_n (μ := mX12_step) (pc := 34) dX12_step_34 rfl rfl ?_
  refine r_iastore (μ := mX12_step) (pc := 35) (j := (at_ + 2 * ld + 1)) dX12_step_35 rfl (by simp only [← nI_add, ← pk_mul] <;> rfl) (by show _ < 3080; omega) (by decide) ?_
  refine r_aload_n (μ := mX12_step) (pc := 36) dX12_step_36 rfl rfl rfl ?_
  refine r_dup (μ := mX12_step) (pc := 37) dX12_step_37 rfl ?_
  refine r_getI (μ := mX12_step) (pc := 38) dX12_step_38 fpX12_254 rfl rfl (by decide) ?_
  rw [upI_ne (by decide), upI_ne (by decide), hl]
  refine r_iconst (μ := mX12_step) (pc := 41) (v := 1) dX12_step_41 ic_1 ?_
  refine r_iadd (μ := mX12_step) (pc := 42) dX12_step_42 ?_
  refine r_putI (μ := mX12_step) (pc := 43) dX12_step_43 fwX12_254 rfl (by decide) rfl ?_
  exact r_vret (μ := mX12_step) (pc := 46) dX12_step_46 rfl (PV_i (by rw [nI_succ]))

