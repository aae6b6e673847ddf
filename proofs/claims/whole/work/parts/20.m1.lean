/-! THE MODEL's world: its object at 0, its rows at 1 .. 18 -/
def shM : List Sh := [(16, 34), (0, 3080), (0, 3080), (0, 3080), (0, 4), (0, 4), (0, 96), (0, 5), (0, 5), (0, 5), (0, 5), (0, 120), (0, 10), (0, 96), (0, 128), (0, 100), (0, 24), (0, 60), (0, 60)]
def mtab : Nat → Option Nat := fun k => match k with
  | 0 => some 1 | 1 => some 2 | 2 => some 3 | 4 => some 4 | 5 => some 5 | 6 => some 6 | 7 => some 7 | 8 => some 8 | 9 => some 9 | 10 => some 10 | 11 => some 11 | 12 => some 12 | 16 => some 13 | 28 => some 14 | 29 => some 15 | 30 => some 16 | 31 => some 17 | 33 => some 18 | _ => none
def MB (mr : MR) : Prop := ∀ k b, mtab k = some b → mr 0 k = some b
theorem c_isIn {d : Nat} {sh : List Sh} {mi : MI} {mr : MR} {v lo hi : Int64} : CP d mX12_isIn [.long v, .long lo, .long hi] sh mi mr 0 0 (PI (b2i (decide (lo ≤ v) && decide (v ≤ hi))) sh mi mr) := by
  refine CP.of (L := [_, _, _, _, _, _]) (by decide) rfl rfl (Nat.le_of_ble_eq_true rfl) ?_
  refine r_lload_n (μ := mX12_isIn) (pc := 0) dX12_isIn_0 rfl rfl ?_
  refine r_lload_n (μ := mX12_isIn) (pc := 1) dX12_isIn_1 rfl rfl ?_
  refine r_lcmp (μ := mX12_isIn) (pc := 2) dX12_isIn_2 ?_
  refine r_if_lt (μ := mX12_isIn) (pc := 3) (tgt := 17) dX12_isIn_3 (by decide) (fun h_3 => ?_) (fun h_3 => ?_)
  · have h_3 : ¬ lo ≤ v := fun q => by have := (lg_cmp_ge v lo).mpr q; rw [Int32.lt_iff_toInt_lt] at h_3; rw [Int32.le_iff_toInt_le] at this; omega
    refine r_iconst (μ := mX12_isIn) (pc := 17) (v := 0) dX12_isIn_17 ic_0 ?_
    exact r_iret (μ := mX12_isIn) (pc := 18) dX12_isIn_18 rfl rfl (PI_i (by simp [b2i, *]))
  · have h_3 : lo ≤ v := (lg_cmp_ge v lo).mp (by rw [Int32.lt_iff_toInt_lt] at h_3; rw [Int32.le_iff_toInt_le]; omega)
    refine r_lload_n (μ := mX12_isIn) (pc := 6) dX12_isIn_6 rfl rfl ?_
    refine r_lload (μ := mX12_isIn) (pc := 7) dX12_isIn_7 rfl ?_
    refine r_lcmp (μ := mX12_isIn) (pc := 9) dX12_isIn_9 ?_
    refine r_if_gt (μ := mX12_isIn) (pc := 10) (tgt := 17) dX12_isIn_10 (by decide) (fun h_10 => ?_) (fun h_10 => ?_)
    · have h_10 : ¬ v ≤ hi := fun q => by have := (lg_cmp_le v hi).mpr q; rw [Int32.lt_iff_toInt_lt] at h_10; rw [Int32.le_iff_toInt_le] at this; omega
      refine r_iconst (μ := mX12_isIn) (pc := 17) (v := 0) dX12_isIn_17 ic_0 ?_
      exact r_iret (μ := mX12_isIn) (pc := 18) dX12_isIn_18 rfl rfl (PI_i (by simp [b2i, *]))
    · have h_10 : v ≤ hi := (lg_cmp_le v hi).mp (by rw [Int32.lt_iff_toInt_lt] at h_10; rw [Int32.le_iff_toInt_le]; omega)
      refine r_iconst (μ := mX12_isIn) (pc := 13) (v := 1) dX12_isIn_13 ic_1 ?_
      refine r_goto (μ := mX12_isIn) (pc := 14) (tgt := 18) dX12_isIn_14 (by decide) ?_
      exact r_iret (μ := mX12_isIn) (pc := 18) dX12_isIn_18 rfl rfl (PI_i (by simp [b2i, *]))

theorem c_orNone {d : Nat} {sh : List Sh} {mi : MI} {mr : MR} {v : Int32} : CP d mX12_orNone [.int v] sh mi mr 0 0 (PI (if v < 0 then -1000000005 else v) sh mi mr) := by
  refine CP.of (L := [_]) (by decide) rfl rfl (Nat.le_of_ble_eq_true rfl) ?_
  refine r_iload_n (μ := mX12_orNone) (pc := 0) dX12_orNone_0 rfl rfl ?_
  refine r_if_ge (μ := mX12_orNone) (pc := 1) (tgt := 9) dX12_orNone_1 (by decide) (fun h_1 => ?_) (fun h_1 => ?_)
  · have h_1 := Int32.not_lt.mpr h_1
    refine r_iload_n (μ := mX12_orNone) (pc := 9) dX12_orNone_9 rfl rfl ?_
    exact r_iret (μ := mX12_orNone) (pc := 10) dX12_orNone_10 rfl rfl (PI_i (by simp [h_1]))
  · have h_1 := Int32.not_le.mp h_1
    refine r_ldc (μ := mX12_orNone) (pc := 4) dX12_orNone_4 ctX12_64 ?_
    refine r_goto (μ := mX12_orNone) (pc := 6) (tgt := 10) dX12_orNone_6 (by decide) ?_
    exact r_iret (μ := mX12_orNone) (pc := 10) dX12_orNone_10 rfl rfl (PI_i (by simp [h_1]))

theorem c_of {d : Nat} {mi : MI} {mr : MR} (hM : MB mr) {l w : Nat} (hl : l < 8) (hw : w < 5) : CP d mX12_of [.ref 0, .int (nI l), .int (nI w)] shM mi mr 0 0 (PI (mi 1 (28 + 5 * l + w)) shM mi mr) := by
  refine CP.of (L := [_, _, _]) (by decide) rfl rfl (Nat.le_of_ble_eq_true rfl) ?_
  refine r_aload_n (μ := mX12_of) (pc := 0) dX12_of_0 rfl rfl rfl ?_
  refine r_getR (μ := mX12_of) (pc := 1) dX12_of_1 fpX12_7 rfl rfl (by decide) (hM _ _ rfl) ?_
  refine r_bipush (μ := mX12_of) (pc := 4) (v := 28) dX12_of_4 bp_28 ?_
  refine r_iconst (μ := mX12_of) (pc := 6) (v := 5) dX12_of_6 ic_5 ?_
  refine r_iload_n (μ := mX12_of) (pc := 7) dX12_of_7 rfl rfl ?_
  refine r_imul (μ := mX12_of) (pc := 8) dX12_of_8 ?_
  refine r_iadd (μ := mX12_of) (pc := 9) dX12_of_9 ?_
  refine r_iload_n (μ := mX12_of) (pc := 10) dX12_of_10 rfl rfl ?_
  refine r_iadd (μ := mX12_of) (pc := 11) dX12_of_11 ?_
  refine r_iaload (μ := mX12_of) (pc := 12) (j := ((28 + (5 * l)) + w)) dX12_of_12 rfl (by simp only [← nI_add, ← pk_mul]; rfl) (by omega) (by decide) ?_
  exact r_iret (μ := mX12_of) (pc := 13) dX12_of_13 rfl rfl (PI_i rfl)

theorem c_height {d : Nat} {mi : MI} {mr : MR} (hM : MB mr) {b : Nat} (hb : b < 10) : CP d mX12_height [.ref 0, .int (nI b)] shM mi mr 0 0 (PI (mi 1 (8 + 2 * b)) shM mi mr) := by
  refine CP.of (L := [_, _]) (by decide) rfl rfl (Nat.le_of_ble_eq_true rfl) ?_
  refine r_aload_n (μ := mX12_height) (pc := 0) dX12_height_0 rfl rfl rfl ?_
  refine r_getR (μ := mX12_height) (pc := 1) dX12_height_1 fpX12_7 rfl rfl (by decide) (hM _ _ rfl) ?_
  refine r_bipush (μ := mX12_height) (pc := 4) (v := 8) dX12_height_4 bp_8 ?_
  refine r_iconst (μ := mX12_height) (pc := 6) (v := 2) dX12_height_6 ic_2 ?_
  refine r_iload_n (μ := mX12_height) (pc := 7) dX12_height_7 rfl rfl ?_
  refine r_imul (μ := mX12_height) (pc := 8) dX12_height_8 ?_
  refine r_iadd (μ := mX12_height) (pc := 9) dX12_height_9 ?_
  refine r_iaload (μ := mX12_height) (pc := 10) (j := (8 + (2 * b))) dX12_height_10 rfl (by simp only [← nI_add, ← pk_mul]; rfl) (by omega) (by decide) ?_
  exact r_iret (μ := mX12_height) (pc := 11) dX12_height_11 rfl rfl (PI_i rfl)

theorem c_where {d : Nat} {mi : MI} {mr : MR} (hM : MB mr) {b : Nat} (hb : b < 6) : CP d mX12_where [.ref 0, .int (nI b)] shM mi mr 0 0 (PI (mi 1 (68 + 2 * b)) shM mi mr) := by
  refine CP.of (L := [_, _]) (by decide) rfl rfl (Nat.le_of_ble_eq_true rfl) ?_
  refine r_aload_n (μ := mX12_where) (pc := 0) dX12_where_0 rfl rfl rfl ?_
  refine r_getR (μ := mX12_where) (pc := 1) dX12_where_1 fpX12_7 rfl rfl (by decide) (hM _ _ rfl) ?_
  refine r_bipush (μ := mX12_where) (pc := 4) (v := 68) dX12_where_4 bp_68 ?_
  refine r_iconst (μ := mX12_where) (pc := 6) (v := 2) dX12_where_6 ic_2 ?_
  refine r_iload_n (μ := mX12_where) (pc := 7) dX12_where_7 rfl rfl ?_
  refine r_imul (μ := mX12_where) (pc := 8) dX12_where_8 ?_
  refine r_iadd (μ := mX12_where) (pc := 9) dX12_where_9 ?_
  refine r_iaload (μ := mX12_where) (pc := 10) (j := (68 + (2 * b))) dX12_where_10 rfl (by simp only [← nI_add, ← pk_mul]; rfl) (by omega) (by decide) ?_
  exact r_iret (μ := mX12_where) (pc := 11) dX12_where_11 rfl rfl (PI_i rfl)

theorem c_textAt {d : Nat} {mi : MI} {mr : MR} {t : Nat} : CP d mX12_textAt [.ref 0, .int (nI t)] shM mi mr 0 0 (PI (nI (80 + 200 * t)) shM mi mr) := by
  refine CP.of (L := [_, _]) (by decide) rfl rfl (Nat.le_of_ble_eq_true rfl) ?_
  refine r_bipush (μ := mX12_textAt) (pc := 0) (v := 80) dX12_textAt_0 bp_80 ?_
  refine r_sipush (μ := mX12_textAt) (pc := 2) (v := 200) dX12_textAt_2 sp_200 ?_
  refine r_iload_n (μ := mX12_textAt) (pc := 5) dX12_textAt_5 rfl rfl ?_
  refine r_imul (μ := mX12_textAt) (pc := 6) dX12_textAt_6 ?_
  refine r_iadd (μ := mX12_textAt) (pc := 7) dX12_textAt_7 ?_
  exact r_iret (μ := mX12_textAt) (pc := 8) dX12_textAt_8 rfl rfl (PI_i (by simp only [← nI_add, ← pk_mul]; rfl))

theorem c_sets {d : Nat} {mi : MI} {mr : MR} (hM : MB mr) {l w : Nat} {v : Int32} (hl : l < 8) (hw : w < 5) : CP d mX12_sets [.ref 0, .int (nI l), .int (nI w), .int v] shM mi mr 0 0 (PV shM mr (fun mi2 => mi2 = upI mi 1 (28 + 5 * l + w) v)) := by
  refine CP.of (L := [_, _, _, _]) (by decide) rfl rfl (Nat.le_of_ble_eq_true rfl) ?_
  refine r_aload_n (μ := mX12_sets) (pc := 0) dX12_sets_0 rfl rfl rfl ?_
  refine r_getR (μ := mX12_sets) (pc := 1) dX12_sets_1 fpX12_7 rfl rfl (by decide) (hM _ _ rfl) ?_
  refine r_bipush (μ := mX12_sets) (pc := 4) (v := 28) dX12_sets_4 bp_28 ?_
  refine r_iconst (μ := mX12_sets) (pc := 6) (v := 5) dX12_sets_6 ic_5 ?_
  refine r_iload_n (μ := mX12_sets) (pc := 7) dX12_sets_7 rfl rfl ?_
  refine r_imul (μ := mX12_sets) (pc := 8) dX12_sets_8 ?_
  refine r_iadd (μ := mX12_sets) (pc := 9) dX12_sets_9 ?_
  refine r_iload_n (μ := mX12_sets) (pc := 10) dX12_sets_10 rfl rfl ?_
  refine r_iadd (μ := mX12_sets) (pc := 11) dX12_sets_11 ?_
  refine r_iload_n (μ := mX12_sets) (pc := 12) dX12_sets_12 rfl rfl ?_
  refine r_iastore (μ := mX12_sets) (pc := 13) (j := ((28 + (5 * l)) + w)) dX12_sets_13 rfl (by simp only [← nI_add, ← pk_mul]; rfl) (by omega) (by decide) ?_
  exact r_vret (μ := mX12_sets) (pc := 14) dX12_sets_14 rfl (PV_i rfl)

theorem c_becomes {d : Nat} {mi : MI} {mr : MR} (hM : MB mr) {k : Nat} {v : Int32} (hk : k < 3080) : CP d mX12_becomes [.ref 0, .int (nI k), .int v] shM mi mr 0 0 (PX shM mr (fun r mi2 => r = mi 1 k ∧ mi2 = upI mi 1 k v)) := by
  refine CP.of (L := [_, _, _, _]) (by decide) rfl rfl (Nat.le_of_ble_eq_true rfl) ?_
  refine r_aload_n (μ := mX12_becomes) (pc := 0) dX12_becomes_0 rfl rfl rfl ?_
  refine r_getR (μ := mX12_becomes) (pc := 1) dX12_becomes_1 fpX12_7 rfl rfl (by decide) (hM _ _ rfl) ?_
  refine r_iload_n (μ := mX12_becomes) (pc := 4) dX12_becomes_4 rfl rfl ?_
  refine r_iaload (μ := mX12_becomes) (pc := 5) (j := k) dX12_becomes_5 rfl rfl (by omega) (by decide) ?_
  refine s_istore_n (μ := mX12_becomes) (pc := 6) (L2 := [_, _, _, _]) dX12_becomes_6 rfl (Nat.le_of_ble_eq_true rfl) (Nat.le_of_ble_eq_true rfl) rfl rfl ?_
  refine r_aload_n (μ := mX12_becomes) (pc := 7) dX12_becomes_7 rfl rfl rfl ?_
  refine r_getR (μ := mX12_becomes) (pc := 8) dX12_becomes_8 fpX12_7 rfl rfl (by decide) (hM _ _ rfl) ?_
  refine r_iload_n (μ := mX12_becomes) (pc := 11) dX12_becomes_11 rfl rfl ?_
  refine r_iload_n (μ := mX12_becomes) (pc := 12) dX12_becomes_12 rfl rfl ?_
  refine r_iastore (μ := mX12_becomes) (pc := 13) (j := k) dX12_becomes_13 rfl rfl (by omega) (by decide) ?_
  refine r_iload_n (μ := mX12_becomes) (pc := 14) dX12_becomes_14 rfl rfl ?_
  exact r_iret (μ := mX12_becomes) (pc := 15) dX12_becomes_15 rfl rfl (PX_i ⟨rfl, rfl⟩)

theorem isIn_0 {x y : Int32} {n : Nat} (h : y = nI n) (hn : n < 1000) : b2i (decide ((0 : Int64) ≤ x.toInt64) && decide (x.toInt64 ≤ (y - 1).toInt64)) = b2i (inR x n) := by
  congr 1
  subst h
  have h1 : (nI n - 1).toInt = (n : Int) - 1 := by
    have := pk_sub_toInt (a := n) (b := 1) (by omega) (by decide)
    exact this
  rw [Bool.eq_iff_iff]
  simp only [Bool.and_eq_true, decide_eq_true_eq, inR]
  rw [i64_le, h1, show (0 : Int64) = (0 : Int32).toInt64 from rfl, i64_le]
  have : (0 : Int32).toInt = 0 := rfl
  omega
theorem c_isLedge {d : Nat} {mi : MI} {mr : MR} (hM : MB mr) {x : Int32} {n : Nat} (hn : mi 1 0 = nI n) (hn2 : n < 1000) : CP (d + 1) mX12_isLedge [.ref 0, .int x] shM mi mr 0 0 (PI (b2i (inR x n)) shM mi mr) := by
  refine CP.of (L := [_, _]) (by decide) rfl rfl (Nat.le_of_ble_eq_true rfl) ?_
  refine r_iload_n (μ := mX12_isLedge) (pc := 0) dX12_isLedge_0 rfl rfl ?_
  refine r_i2l (μ := mX12_isLedge) (pc := 1) dX12_isLedge_1 ?_
  refine r_lconst (μ := mX12_isLedge) (pc := 2) (v := 0) dX12_isLedge_2 lc_0 ?_
  refine r_aload_n (μ := mX12_isLedge) (pc := 3) dX12_isLedge_3 rfl rfl rfl ?_
  refine r_getR (μ := mX12_isLedge) (pc := 4) dX12_isLedge_4 fpX12_7 rfl rfl (by decide) (hM _ _ rfl) ?_
  refine r_iconst (μ := mX12_isLedge) (pc := 7) (v := 0) dX12_isLedge_7 ic_0 ?_
  refine r_iaload (μ := mX12_isLedge) (pc := 8) (j := 0) dX12_isLedge_8 rfl rfl (by decide) (by decide) ?_
  refine r_iconst (μ := mX12_isLedge) (pc := 9) (v := 1) dX12_isLedge_9 ic_1 ?_
  refine r_isub (μ := mX12_isLedge) (pc := 10) dX12_isLedge_10 ?_
  refine r_i2l (μ := mX12_isLedge) (pc := 11) dX12_isLedge_11 ?_
  refine sP3 (μ := mX12_isLedge) (pc := 12) (μ2 := mX12_isIn) dX12_isLedge_12 lkX12_65 stX12_isIn mwX12_isIn (Nat.le_of_ble_eq_true rfl) c_isIn ?_
  exact r_iret (μ := mX12_isLedge) (pc := 15) dX12_isLedge_15 rfl (nar_b2i _) (PI_i (isIn_0 hn hn2))

theorem c_isLadder {d : Nat} {mi : MI} {mr : MR} (hM : MB mr) {x : Int32} {n : Nat} (hn : mi 1 1 = nI n) (hn2 : n < 1000) : CP (d + 1) mX12_isLadder [.ref 0, .int x] shM mi mr 0 0 (PI (b2i (inR x n)) shM mi mr) := by
  refine CP.of (L := [_, _]) (by decide) rfl rfl (Nat.le_of_ble_eq_true rfl) ?_
  refine r_iload_n (μ := mX12_isLadder) (pc := 0) dX12_isLadder_0 rfl rfl ?_
  refine r_i2l (μ := mX12_isLadder) (pc := 1) dX12_isLadder_1 ?_
  refine r_lconst (μ := mX12_isLadder) (pc := 2) (v := 0) dX12_isLadder_2 lc_0 ?_
  refine r_aload_n (μ := mX12_isLadder) (pc := 3) dX12_isLadder_3 rfl rfl rfl ?_
  refine r_getR (μ := mX12_isLadder) (pc := 4) dX12_isLadder_4 fpX12_7 rfl rfl (by decide) (hM _ _ rfl) ?_
  refine r_iconst (μ := mX12_isLadder) (pc := 7) (v := 1) dX12_isLadder_7 ic_1 ?_
  refine r_iaload (μ := mX12_isLadder) (pc := 8) (j := 1) dX12_isLadder_8 rfl rfl (by decide) (by decide) ?_
  refine r_iconst (μ := mX12_isLadder) (pc := 9) (v := 1) dX12_isLadder_9 ic_1 ?_
  refine r_isub (μ := mX12_isLadder) (pc := 10) dX12_isLadder_10 ?_
  refine r_i2l (μ := mX12_isLadder) (pc := 11) dX12_isLadder_11 ?_
  refine sP3 (μ := mX12_isLadder) (pc := 12) (μ2 := mX12_isIn) dX12_isLadder_12 lkX12_65 stX12_isIn mwX12_isIn (Nat.le_of_ble_eq_true rfl) c_isIn ?_
  exact r_iret (μ := mX12_isLadder) (pc := 15) dX12_isLadder_15 rfl (nar_b2i _) (PI_i (isIn_0 hn hn2))

theorem c_isPerson {d : Nat} {mi : MI} {mr : MR} (hM : MB mr) {x : Int32} {n : Nat} (hn : mi 1 2 = nI n) (hn2 : n < 1000) : CP (d + 1) mX12_isPerson [.ref 0, .int x] shM mi mr 0 0 (PI (b2i (inR x n)) shM mi mr) := by
  refine CP.of (L := [_, _]) (by decide) rfl rfl (Nat.le_of_ble_eq_true rfl) ?_
  refine r_iload_n (μ := mX12_isPerson) (pc := 0) dX12_isPerson_0 rfl rfl ?_
  refine r_i2l (μ := mX12_isPerson) (pc := 1) dX12_isPerson_1 ?_
  refine r_lconst (μ := mX12_isPerson) (pc := 2) (v := 0) dX12_isPerson_2 lc_0 ?_
  refine r_aload_n (μ := mX12_isPerson) (pc := 3) dX12_isPerson_3 rfl rfl rfl ?_
  refine r_getR (μ := mX12_isPerson) (pc := 4) dX12_isPerson_4 fpX12_7 rfl rfl (by decide) (hM _ _ rfl) ?_
  refine r_iconst (μ := mX12_isPerson) (pc := 7) (v := 2) dX12_isPerson_7 ic_2 ?_
  refine r_iaload (μ := mX12_isPerson) (pc := 8) (j := 2) dX12_isPerson_8 rfl rfl (by decide) (by decide) ?_
  refine r_iconst (μ := mX12_isPerson) (pc := 9) (v := 1) dX12_isPerson_9 ic_1 ?_
  refine r_isub (μ := mX12_isPerson) (pc := 10) dX12_isPerson_10 ?_
  refine r_i2l (μ := mX12_isPerson) (pc := 11) dX12_isPerson_11 ?_
  refine sP3 (μ := mX12_isPerson) (pc := 12) (μ2 := mX12_isIn) dX12_isPerson_12 lkX12_65 stX12_isIn mwX12_isIn (Nat.le_of_ble_eq_true rfl) c_isIn ?_
  exact r_iret (μ := mX12_isPerson) (pc := 15) dX12_isPerson_15 rfl (nar_b2i _) (PI_i (isIn_0 hn hn2))

theorem c_isText {d : Nat} {mi : MI} {mr : MR} (hM : MB mr) {x : Int32} {n : Nat} (hn : mi 1 3 = nI n) (hn2 : n < 1000) : CP (d + 1) mX12_isText [.ref 0, .int x] shM mi mr 0 0 (PI (b2i (inR x n)) shM mi mr) := by
  refine CP.of (L := [_, _]) (by decide) rfl rfl (Nat.le_of_ble_eq_true rfl) ?_
  refine r_iload_n (μ := mX12_isText) (pc := 0) dX12_isText_0 rfl rfl ?_
  refine r_i2l (μ := mX12_isText) (pc := 1) dX12_isText_1 ?_
  refine r_lconst (μ := mX12_isText) (pc := 2) (v := 0) dX12_isText_2 lc_0 ?_
  refine r_aload_n (μ := mX12_isText) (pc := 3) dX12_isText_3 rfl rfl rfl ?_
  refine r_getR (μ := mX12_isText) (pc := 4) dX12_isText_4 fpX12_7 rfl rfl (by decide) (hM _ _ rfl) ?_
  refine r_iconst (μ := mX12_isText) (pc := 7) (v := 3) dX12_isText_7 ic_3 ?_
  refine r_iaload (μ := mX12_isText) (pc := 8) (j := 3) dX12_isText_8 rfl rfl (by decide) (by decide) ?_
  refine r_iconst (μ := mX12_isText) (pc := 9) (v := 1) dX12_isText_9 ic_1 ?_
  refine r_isub (μ := mX12_isText) (pc := 10) dX12_isText_10 ?_
  refine r_i2l (μ := mX12_isText) (pc := 11) dX12_isText_11 ?_
  refine sP3 (μ := mX12_isText) (pc := 12) (μ2 := mX12_isIn) dX12_isText_12 lkX12_65 stX12_isIn mwX12_isIn (Nat.le_of_ble_eq_true rfl) c_isIn ?_
  exact r_iret (μ := mX12_isText) (pc := 15) dX12_isText_15 rfl (nar_b2i _) (PI_i (isIn_0 hn hn2))

