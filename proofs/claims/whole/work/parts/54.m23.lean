theorem c_isName {d : Nat} {sh : List Sh} {mi : MI} {mr : MR} {key c : Int32} (hk : key = 0 ∨ key = 1 ∨ key = 2) : CP d mX12_isName [.int key, .int c] sh mi mr 0 0 (PI (b2i (nmB key c)) sh mi mr) := by
  refine CP.of (L := [_, _]) (by decide) rfl rfl (Nat.le_of_ble_eq_true rfl) ?_
  refine r_iload_n (μ := mX12_isName) (pc := 0) dX12_isName_0 rfl rfl ?_
  rcases hk with rfl | rfl | rfl
  · refine r_look (μ := mX12_isName) (pc := 1) (off := 27) (tgt := 28) dX12_isName_1 (by decide) (by decide) (by decide) ?_
    refine r_iload_n (μ := mX12_isName) (pc := 28) dX12_isName_28 rfl rfl ?_
    refine r_bipush (μ := mX12_isName) (pc := 29) (v := 104) dX12_isName_29 bp_104 ?_
    refine r_icmp_eq (μ := mX12_isName) (pc := 31) (tgt := 40) dX12_isName_31 (by decide) (fun h_31 => ?_) (fun h_31 => ?_)
    · refine r_iconst (μ := mX12_isName) (pc := 40) (v := 1) dX12_isName_40 ic_1 ?_
      refine r_goto (μ := mX12_isName) (pc := 41) (tgt := 45) dX12_isName_41 (by decide) ?_
      exact r_iret (μ := mX12_isName) (pc := 45) dX12_isName_45 rfl rfl (PI_i (by simp [nmB, b2i, *]))
    · refine r_iload_n (μ := mX12_isName) (pc := 34) dX12_isName_34 rfl rfl ?_
      refine r_bipush (μ := mX12_isName) (pc := 35) (v := 112) dX12_isName_35 bp_112 ?_
      refine r_icmp_ne (μ := mX12_isName) (pc := 37) (tgt := 44) dX12_isName_37 (by decide) (fun h_37 => ?_) (fun h_37 => ?_)
      · refine r_iconst (μ := mX12_isName) (pc := 44) (v := 0) dX12_isName_44 ic_0 ?_
        exact r_iret (μ := mX12_isName) (pc := 45) dX12_isName_45 rfl rfl (PI_i (by simp [nmB, b2i, *]))
      · refine r_iconst (μ := mX12_isName) (pc := 40) (v := 1) dX12_isName_40 ic_1 ?_
        refine r_goto (μ := mX12_isName) (pc := 41) (tgt := 45) dX12_isName_41 (by decide) ?_
        exact r_iret (μ := mX12_isName) (pc := 45) dX12_isName_45 rfl rfl (PI_i (by simp [nmB, b2i, *]))
  · refine r_look (μ := mX12_isName) (pc := 1) (off := 45) (tgt := 46) dX12_isName_1 (by decide) (by decide) (by decide) ?_
    refine r_iload_n (μ := mX12_isName) (pc := 46) dX12_isName_46 rfl rfl ?_
    refine r_bipush (μ := mX12_isName) (pc := 47) (v := 115) dX12_isName_47 bp_115 ?_
    refine r_icmp_eq (μ := mX12_isName) (pc := 49) (tgt := 64) dX12_isName_49 (by decide) (fun h_49 => ?_) (fun h_49 => ?_)
    · refine r_iconst (μ := mX12_isName) (pc := 64) (v := 1) dX12_isName_64 ic_1 ?_
      refine r_goto (μ := mX12_isName) (pc := 65) (tgt := 69) dX12_isName_65 (by decide) ?_
      exact r_iret (μ := mX12_isName) (pc := 69) dX12_isName_69 rfl rfl (PI_i (by simp [nmB, b2i, *]))
    · refine r_iload_n (μ := mX12_isName) (pc := 52) dX12_isName_52 rfl rfl ?_
      refine r_bipush (μ := mX12_isName) (pc := 53) (v := 108) dX12_isName_53 bp_108 ?_
      refine r_icmp_eq (μ := mX12_isName) (pc := 55) (tgt := 64) dX12_isName_55 (by decide) (fun h_55 => ?_) (fun h_55 => ?_)
      · refine r_iconst (μ := mX12_isName) (pc := 64) (v := 1) dX12_isName_64 ic_1 ?_
        refine r_goto (μ := mX12_isName) (pc := 65) (tgt := 69) dX12_isName_65 (by decide) ?_
        exact r_iret (μ := mX12_isName) (pc := 69) dX12_isName_69 rfl rfl (PI_i (by simp [nmB, b2i, *]))
      · refine r_iload_n (μ := mX12_isName) (pc := 58) dX12_isName_58 rfl rfl ?_
        refine r_bipush (μ := mX12_isName) (pc := 59) (v := 100) dX12_isName_59 bp_100 ?_
        refine r_icmp_ne (μ := mX12_isName) (pc := 61) (tgt := 68) dX12_isName_61 (by decide) (fun h_61 => ?_) (fun h_61 => ?_)
        · refine r_iconst (μ := mX12_isName) (pc := 68) (v := 0) dX12_isName_68 ic_0 ?_
          exact r_iret (μ := mX12_isName) (pc := 69) dX12_isName_69 rfl rfl (PI_i (by simp [nmB, b2i, *]))
        · refine r_iconst (μ := mX12_isName) (pc := 64) (v := 1) dX12_isName_64 ic_1 ?_
          refine r_goto (μ := mX12_isName) (pc := 65) (tgt := 69) dX12_isName_65 (by decide) ?_
          exact r_iret (μ := mX12_isName) (pc := 69) dX12_isName_69 rfl rfl (PI_i (by simp [nmB, b2i, *]))
  · refine r_look (μ := mX12_isName) (pc := 1) (off := 69) (tgt := 70) dX12_isName_1 (by decide) (by decide) (by decide) ?_
    refine r_iload_n (μ := mX12_isName) (pc := 70) dX12_isName_70 rfl rfl ?_
    refine r_bipush (μ := mX12_isName) (pc := 71) (v := 109) dX12_isName_71 bp_109 ?_
    refine r_icmp_eq (μ := mX12_isName) (pc := 73) (tgt := 82) dX12_isName_73 (by decide) (fun h_73 => ?_) (fun h_73 => ?_)
    · refine r_iconst (μ := mX12_isName) (pc := 82) (v := 1) dX12_isName_82 ic_1 ?_
      refine r_goto (μ := mX12_isName) (pc := 83) (tgt := 87) dX12_isName_83 (by decide) ?_
      exact r_iret (μ := mX12_isName) (pc := 87) dX12_isName_87 rfl rfl (PI_i (by simp [nmB, b2i, *]))
    · refine r_iload_n (μ := mX12_isName) (pc := 76) dX12_isName_76 rfl rfl ?_
      refine r_bipush (μ := mX12_isName) (pc := 77) (v := 110) dX12_isName_77 bp_110 ?_
      refine r_icmp_ne (μ := mX12_isName) (pc := 79) (tgt := 86) dX12_isName_79 (by decide) (fun h_79 => ?_) (fun h_79 => ?_)
      · refine r_iconst (μ := mX12_isName) (pc := 86) (v := 0) dX12_isName_86 ic_0 ?_
        exact r_iret (μ := mX12_isName) (pc := 87) dX12_isName_87 rfl rfl (PI_i (by simp [nmB, b2i, *]))
      · refine r_iconst (μ := mX12_isName) (pc := 82) (v := 1) dX12_isName_82 ic_1 ?_
        refine r_goto (μ := mX12_isName) (pc := 83) (tgt := 87) dX12_isName_83 (by decide) ?_
        exact r_iret (μ := mX12_isName) (pc := 87) dX12_isName_87 rfl rfl (PI_i (by simp [nmB, b2i, *]))

def wdB (T : Rw) (b e : Nat) (k x y z w : Int32) : Bool := decide (k = 1) && decide (e - b = 4) && decide (T b = x) && decide (T (b + 1) = y) && decide (T (b + 2) = z) && decide (T (b + 3) = w)
def keyB (T : Rw) (b e : Nat) (k : Int32) : Int32 := if wdB T b e k 108 101 97 110 = true then 0 else if wdB T b e k 109 111 118 101 = true then 1 else if wdB T b e k 116 111 108 108 = true then 2 else -1

theorem c_isWordAt {d : Nat} {mi : MI} {mr : MR} (hM : MB mr) {b e : Nat} {k : Int32} (hb : mi 0 18 = nI b) (he : mi 0 19 = nI e) (hk : mi 0 20 = k) (hbe : b ≤ e) (he96 : e ≤ 96) {x y z w : Int32} (hw : ¬ w = 0) : CP (d) mX12_isWordAt [.ref 0, .int x, .int y, .int z, .int w] shM mi mr 0 0 (PI (b2i (wdB (mi 13) b e k x y z w)) shM mi mr) := by
  refine CP.of (L := [_, _, _, _, _, _]) (by decide) rfl rfl (Nat.le_of_ble_eq_true rfl) ?_
  refine r_iload (μ := mX12_isWordAt) (pc := 0) dX12_isWordAt_0 rfl ?_
  refine r_if_ne (μ := mX12_isWordAt) (pc := 2) (tgt := 9) dX12_isWordAt_2 (by decide) (fun h_2 => ?_) (fun h_2 => absurd h_2 hw)
  refine r_iconst (μ := mX12_isWordAt) (pc := 9) (v := 4) dX12_isWordAt_9 ic_4 ?_
  refine s_istore (μ := mX12_isWordAt) (pc := 10) (L2 := [_, _, _, _, _, _]) dX12_isWordAt_10 (Nat.le_of_ble_eq_true rfl) (Nat.le_of_ble_eq_true rfl) rfl rfl ?_
  refine r_aload_n (μ := mX12_isWordAt) (pc := 12) dX12_isWordAt_12 rfl rfl rfl ?_
  refine r_getI (μ := mX12_isWordAt) (pc := 13) dX12_isWordAt_13 fpX12_229 rfl rfl (by decide) ?_
  rw [hk]
  refine r_iconst (μ := mX12_isWordAt) (pc := 16) (v := 1) dX12_isWordAt_16 ic_1 ?_
  refine r_icmp_ne (μ := mX12_isWordAt) (pc := 17) (tgt := 102) dX12_isWordAt_17 (by decide) (fun h_17 => ?_) (fun h_17 => ?_)
  · refine r_iconst (μ := mX12_isWordAt) (pc := 102) (v := 0) dX12_isWordAt_102 ic_0 ?_
    exact r_iret (μ := mX12_isWordAt) (pc := 103) dX12_isWordAt_103 rfl rfl (PI_i (by simp [wdB, b2i, *]))
  · refine r_aload_n (μ := mX12_isWordAt) (pc := 20) dX12_isWordAt_20 rfl rfl rfl ?_
    refine r_getI (μ := mX12_isWordAt) (pc := 21) dX12_isWordAt_21 fpX12_226 rfl rfl (by decide) ?_
    rw [he]
    refine r_aload_n (μ := mX12_isWordAt) (pc := 24) dX12_isWordAt_24 rfl rfl rfl ?_
    refine r_getI (μ := mX12_isWordAt) (pc := 25) dX12_isWordAt_25 fpX12_232 rfl rfl (by decide) ?_
    rw [hb]
    refine r_isub (μ := mX12_isWordAt) (pc := 28) dX12_isWordAt_28 ?_
    rw [pk_sub hbe]
    refine r_iload (μ := mX12_isWordAt) (pc := 29) dX12_isWordAt_29 rfl ?_
    refine r_icmp_ne (μ := mX12_isWordAt) (pc := 31) (tgt := 102) dX12_isWordAt_31 (by decide) (fun h_31 => ?_) (fun h_31 => ?_)
    · have h31 : ¬ e - b = 4 := fun q => h_31 (by rw [q]; rfl)
      refine r_iconst (μ := mX12_isWordAt) (pc := 102) (v := 0) dX12_isWordAt_102 ic_0 ?_
      exact r_iret (μ := mX12_isWordAt) (pc := 103) dX12_isWordAt_103 rfl rfl (PI_i (by simp [wdB, b2i, *]))
    · have h31 : e - b = 4 := (nI_eq (b := 4) (by omega) (by omega)).mp h_31
      refine r_aload_n (μ := mX12_isWordAt) (pc := 34) dX12_isWordAt_34 rfl rfl rfl ?_
      refine r_getR (μ := mX12_isWordAt) (pc := 35) dX12_isWordAt_35 fpX12_46 rfl rfl (by decide) (hM _ _ rfl) ?_
      refine r_aload_n (μ := mX12_isWordAt) (pc := 38) dX12_isWordAt_38 rfl rfl rfl ?_
      refine r_getI (μ := mX12_isWordAt) (pc := 39) dX12_isWordAt_39 fpX12_232 rfl rfl (by decide) ?_
      rw [hb]
      refine r_iaload (μ := mX12_isWordAt) (pc := 42) (j := b) dX12_isWordAt_42 rfl rfl (by show _ < 96; omega) (by decide) ?_
      refine r_iload_n (μ := mX12_isWordAt) (pc := 43) dX12_isWordAt_43 rfl rfl ?_
      refine r_icmp_ne (μ := mX12_isWordAt) (pc := 44) (tgt := 102) dX12_isWordAt_44 (by decide) (fun h_44 => ?_) (fun h_44 => ?_)
      · refine r_iconst (μ := mX12_isWordAt) (pc := 102) (v := 0) dX12_isWordAt_102 ic_0 ?_
        exact r_iret (μ := mX12_isWordAt) (pc := 103) dX12_isWordAt_103 rfl rfl (PI_i (by simp [wdB, b2i, *]))
      · refine r_aload_n (μ := mX12_isWordAt) (pc := 47) dX12_isWordAt_47 rfl rfl rfl ?_
        refine r_getR (μ := mX12_isWordAt) (pc := 48) dX12_isWordAt_48 fpX12_46 rfl rfl (by decide) (hM _ _ rfl) ?_
        refine r_aload_n (μ := mX12_isWordAt) (pc := 51) dX12_isWordAt_51 rfl rfl rfl ?_
        refine r_getI (μ := mX12_isWordAt) (pc := 52) dX12_isWordAt_52 fpX12_232 rfl rfl (by decide) ?_
        rw [hb]
        refine r_iconst (μ := mX12_isWordAt) (pc := 55) (v := 1) dX12_isWordAt_55 ic_1 ?_
        refine r_iadd (μ := mX12_isWordAt) (pc := 56) dX12_isWordAt_56 ?_
        refine r_iaload (μ := mX12_isWordAt) (pc := 57) (j := (b + 1)) dX12_isWordAt_57 rfl (by simp only [← nI_add] <;> rfl) (by show _ < 96; omega) (by decide) ?_
        refine r_iload_n (μ := mX12_isWordAt) (pc := 58) dX12_isWordAt_58 rfl rfl ?_
        refine r_icmp_ne (μ := mX12_isWordAt) (pc := 59) (tgt := 102) dX12_isWordAt_59 (by decide) (fun h_59 => ?_) (fun h_59 => ?_)
        · refine r_iconst (μ := mX12_isWordAt) (pc := 102) (v := 0) dX12_isWordAt_102 ic_0 ?_
          exact r_iret (μ := mX12_isWordAt) (pc := 103) dX12_isWordAt_103 rfl rfl (PI_i (by simp [wdB, b2i, *]))
        · refine r_aload_n (μ := mX12_isWordAt) (pc := 62) dX12_isWordAt_62 rfl rfl rfl ?_
          refine r_getR (μ := mX12_isWordAt) (pc := 63) dX12_isWordAt_63 fpX12_46 rfl rfl (by decide) (hM _ _ rfl) ?_
          refine r_aload_n (μ := mX12_isWordAt) (pc := 66) dX12_isWordAt_66 rfl rfl rfl ?_
          refine r_getI (μ := mX12_isWordAt) (pc := 67) dX12_isWordAt_67 fpX12_232 rfl rfl (by decide) ?_
          rw [hb]
          refine r_iconst (μ := mX12_isWordAt) (pc := 70) (v := 2) dX12_isWordAt_70 ic_2 ?_
          refine r_iadd (μ := mX12_isWordAt) (pc := 71) dX12_isWordAt_71 ?_
          refine r_iaload (μ := mX12_isWordAt) (pc := 72) (j := (b + 2)) dX12_isWordAt_72 rfl (by simp only [← nI_add] <;> rfl) (by show _ < 96; omega) (by decide) ?_
          refine r_iload_n (μ := mX12_isWordAt) (pc := 73) dX12_isWordAt_73 rfl rfl ?_
          refine r_icmp_ne (μ := mX12_isWordAt) (pc := 74) (tgt := 102) dX12_isWordAt_74 (by decide) (fun h_74 => ?_) (fun h_74 => ?_)
          · refine r_iconst (μ := mX12_isWordAt) (pc := 102) (v := 0) dX12_isWordAt_102 ic_0 ?_
            exact r_iret (μ := mX12_isWordAt) (pc := 103) dX12_isWordAt_103 rfl rfl (PI_i (by simp [wdB, b2i, *]))
          · refine r_iload (μ := mX12_isWordAt) (pc := 77) dX12_isWordAt_77 rfl ?_
            refine r_if_eq (μ := mX12_isWordAt) (pc := 79) (tgt := 98) dX12_isWordAt_79 (by decide) (fun h_79 => absurd h_79 hw) (fun h_79 => ?_)
            refine r_aload_n (μ := mX12_isWordAt) (pc := 82) dX12_isWordAt_82 rfl rfl rfl ?_
            refine r_getR (μ := mX12_isWordAt) (pc := 83) dX12_isWordAt_83 fpX12_46 rfl rfl (by decide) (hM _ _ rfl) ?_
            refine r_aload_n (μ := mX12_isWordAt) (pc := 86) dX12_isWordAt_86 rfl rfl rfl ?_
            refine r_getI (μ := mX12_isWordAt) (pc := 87) dX12_isWordAt_87 fpX12_232 rfl rfl (by decide) ?_
            rw [hb]
            refine r_iconst (μ := mX12_isWordAt) (pc := 90) (v := 3) dX12_isWordAt_90 ic_3 ?_
            refine r_iadd (μ := mX12_isWordAt) (pc := 91) dX12_isWordAt_91 ?_
            refine r_iaload (μ := mX12_isWordAt) (pc := 92) (j := (b + 3)) dX12_isWordAt_92 rfl (by simp only [← nI_add] <;> rfl) (by show _ < 96; omega) (by decide) ?_
            refine r_iload (μ := mX12_isWordAt) (pc := 93) dX12_isWordAt_93 rfl ?_
            refine r_icmp_ne (μ := mX12_isWordAt) (pc := 95) (tgt := 102) dX12_isWordAt_95 (by decide) (fun h_95 => ?_) (fun h_95 => ?_)
            · refine r_iconst (μ := mX12_isWordAt) (pc := 102) (v := 0) dX12_isWordAt_102 ic_0 ?_
              exact r_iret (μ := mX12_isWordAt) (pc := 103) dX12_isWordAt_103 rfl rfl (PI_i (by simp [wdB, b2i, *]))
            · refine r_iconst (μ := mX12_isWordAt) (pc := 98) (v := 1) dX12_isWordAt_98 ic_1 ?_
              refine r_goto (μ := mX12_isWordAt) (pc := 99) (tgt := 103) dX12_isWordAt_99 (by decide) ?_
              exact r_iret (μ := mX12_isWordAt) (pc := 103) dX12_isWordAt_103 rfl rfl (PI_i (by simp [wdB, b2i, *]))

theorem c_key {d : Nat} {mi : MI} {mr : MR} (hM : MB mr) {b e : Nat} {k : Int32} (hb : mi 0 18 = nI b) (he : mi 0 19 = nI e) (hk : mi 0 20 = k) (hbe : b ≤ e) (he96 : e ≤ 96) : CP (d + 1) mX12_key [.ref 0] shM mi mr 0 0 (PI (keyB (mi 13) b e k) shM mi mr) := by
  refine CP.of (L := [_]) (by decide) rfl rfl (Nat.le_of_ble_eq_true rfl) ?_
  refine r_aload_n (μ := mX12_key) (pc := 0) dX12_key_0 rfl rfl rfl ?_
  refine r_bipush (μ := mX12_key) (pc := 1) (v := 108) dX12_key_1 bp_108 ?_
  refine r_bipush (μ := mX12_key) (pc := 3) (v := 101) dX12_key_3 bp_101 ?_
  refine r_bipush (μ := mX12_key) (pc := 5) (v := 97) dX12_key_5 bp_97 ?_
  refine r_bipush (μ := mX12_key) (pc := 7) (v := 110) dX12_key_7 bp_110 ?_
  refine vP4 (μ := mX12_key) (pc := 9) (c0 := 12) (q0 := (RX12, TX12, 34)) (μ2 := mX12_isWordAt) dX12_key_9 rfl rfl lkX12_247 imX12_isWordAt seX12_X12_isWordAt_X12_isWordAt mwX12_isWordAt (Nat.le_of_ble_eq_true rfl) (c_isWordAt hM hb he hk hbe he96 (by decide)) ?_
  refine r_if_eq (μ := mX12_key) (pc := 12) (tgt := 17) dX12_key_12 (by decide) (fun h_12 => ?_) (fun h_12 => ?_)
  · have h_12 := b2i_0 h_12
    refine r_aload_n (μ := mX12_key) (pc := 17) dX12_key_17 rfl rfl rfl ?_
    refine r_bipush (μ := mX12_key) (pc := 18) (v := 109) dX12_key_18 bp_109 ?_
    refine r_bipush (μ := mX12_key) (pc := 20) (v := 111) dX12_key_20 bp_111 ?_
    refine r_bipush (μ := mX12_key) (pc := 22) (v := 118) dX12_key_22 bp_118 ?_
    refine r_bipush (μ := mX12_key) (pc := 24) (v := 101) dX12_key_24 bp_101 ?_
    refine vP4 (μ := mX12_key) (pc := 26) (c0 := 12) (q0 := (RX12, TX12, 34)) (μ2 := mX12_isWordAt) dX12_key_26 rfl rfl lkX12_247 imX12_isWordAt seX12_X12_isWordAt_X12_isWordAt mwX12_isWordAt (Nat.le_of_ble_eq_true rfl) (c_isWordAt hM hb he hk hbe he96 (by decide)) ?_
    refine r_if_eq (μ := mX12_key) (pc := 29) (tgt := 34) dX12_key_29 (by decide) (fun h_29 => ?_) (fun h_29 => ?_)
    · have h_29 := b2i_0 h_29
      refine r_aload_n (μ := mX12_key) (pc := 34) dX12_key_34 rfl rfl rfl ?_
      refine r_bipush (μ := mX12_key) (pc := 35) (v := 116) dX12_key_35 bp_116 ?_
      refine r_bipush (μ := mX12_key) (pc := 37) (v := 111) dX12_key_37 bp_111 ?_
      refine r_bipush (μ := mX12_key) (pc := 39) (v := 108) dX12_key_39 bp_108 ?_
      refine r_bipush (μ := mX12_key) (pc := 41) (v := 108) dX12_key_41 bp_108 ?_
      refine vP4 (μ := mX12_key) (pc := 43) (c0 := 12) (q0 := (RX12, TX12, 34)) (μ2 := mX12_isWordAt) dX12_key_43 rfl rfl lkX12_247 imX12_isWordAt seX12_X12_isWordAt_X12_isWordAt mwX12_isWordAt (Nat.le_of_ble_eq_true rfl) (c_isWordAt hM hb he hk hbe he96 (by decide)) ?_
      refine r_if_eq (μ := mX12_key) (pc := 46) (tgt := 53) dX12_key_46 (by decide) (fun h_46 => ?_) (fun h_46 => ?_)
      · have h_46 := b2i_0 h_46
        refine r_iconst (μ := mX12_key) (pc := 53) (v := -1) dX12_key_53 ic_m1 ?_
        exact r_iret (μ := mX12_key) (pc := 54) dX12_key_54 rfl rfl (PI_i (by unfold keyB; simp [*]))
      · have h_46 := b2i_1 h_46
        refine r_iconst (μ := mX12_key) (pc := 49) (v := 2) dX12_key_49 ic_2 ?_
        refine r_goto (μ := mX12_key) (pc := 50) (tgt := 54) dX12_key_50 (by decide) ?_
        exact r_iret (μ := mX12_key) (pc := 54) dX12_key_54 rfl rfl (PI_i (by unfold keyB; simp [*]))
    · have h_29 := b2i_1 h_29
      refine r_iconst (μ := mX12_key) (pc := 32) (v := 1) dX12_key_32 ic_1 ?_
      exact r_iret (μ := mX12_key) (pc := 33) dX12_key_33 rfl rfl (PI_i (by unfold keyB; simp [*]))
  · have h_12 := b2i_1 h_12
    refine r_iconst (μ := mX12_key) (pc := 15) (v := 0) dX12_key_15 ic_0 ?_
    exact r_iret (μ := mX12_key) (pc := 16) dX12_key_16 rfl rfl (PI_i (by unfold keyB; simp [*]))

