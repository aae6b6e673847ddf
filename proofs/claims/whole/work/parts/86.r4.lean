theorem lp_skip {d : Nat} {sh : List Sh} {mi : MI} {mr : MR} (hF : SHC sh) (hB : CB mr) {tp : Nat} (ht : mi 48 3 = nI tp) (h96 : tp ≤ 96) {Q : QT} {e : Nat} (hq : Q none sh (upI mi 48 2 (nI e)) mr) : ∀ (k c : Nat), c + k = 96 → c ≤ tp → rnE (blB tp (mi 49)) c = e → WP d mX5_skipBlanks 0 [.ref 48] [] sh (upI mi 48 2 (nI c)) mr 0 0 Q := by
  intro k
  induction k with
  | zero =>
    intro c hk hc he
    have hf : blB tp (mi 49) c = false := by unfold blB; rw [decide_eq_false (by omega)]; rfl
    rw [rnE_f hf] at he
    subst he
    refine r_aload_n (μ := mX5_skipBlanks) (pc := 0) dX5_skipBlanks_0 rfl rfl rfl ?_
    refine r_getI (μ := mX5_skipBlanks) (pc := 1) dX5_skipBlanks_1 fpX5_19 rfl (hF _ _ rfl) (by decide) ?_
    rw [up_eq]
    refine r_aload_n (μ := mX5_skipBlanks) (pc := 4) dX5_skipBlanks_4 rfl rfl rfl ?_
    refine r_getI (μ := mX5_skipBlanks) (pc := 5) dX5_skipBlanks_5 fpX5_22 rfl (hF _ _ rfl) (by decide) ?_
    rw [up_ne (by decide), ht]
    refine r_icmp_ge (μ := mX5_skipBlanks) (pc := 8) (tgt := 38) dX5_skipBlanks_8 (by decide) (fun h_8 => ?_) (fun h_8 => absurd (nI_le (by omega) (by omega)) h_8)
    exact r_vret (μ := mX5_skipBlanks) (pc := 38) dX5_skipBlanks_38 rfl hq
  | succ k ih =>
    intro c hk hc he
    refine r_aload_n (μ := mX5_skipBlanks) (pc := 0) dX5_skipBlanks_0 rfl rfl rfl ?_
    refine r_getI (μ := mX5_skipBlanks) (pc := 1) dX5_skipBlanks_1 fpX5_19 rfl (hF _ _ rfl) (by decide) ?_
    rw [up_eq]
    refine r_aload_n (μ := mX5_skipBlanks) (pc := 4) dX5_skipBlanks_4 rfl rfl rfl ?_
    refine r_getI (μ := mX5_skipBlanks) (pc := 5) dX5_skipBlanks_5 fpX5_22 rfl (hF _ _ rfl) (by decide) ?_
    rw [up_ne (by decide), ht]
    refine r_icmp_ge (μ := mX5_skipBlanks) (pc := 8) (tgt := 38) dX5_skipBlanks_8 (by decide) (fun h_8 => ?_) (fun h_8 => ?_)
    · have hf : blB tp (mi 49) c = false := by unfold blB; rw [decide_eq_false (by have := (nI_leI (by omega) (by omega)).mp h_8; omega)]; rfl
      rw [rnE_f hf] at he
      subst he
      exact r_vret (μ := mX5_skipBlanks) (pc := 38) dX5_skipBlanks_38 rfl hq
    · have hc2 : c < tp := by have := mt (nI_leI (by omega) (by omega)).mpr h_8; omega
      refine r_aload_n (μ := mX5_skipBlanks) (pc := 11) dX5_skipBlanks_11 rfl rfl rfl ?_
      refine r_getR (μ := mX5_skipBlanks) (pc := 12) dX5_skipBlanks_12 fpX5_9 rfl (hF _ _ rfl) (by decide) (hB _ _ _ rfl) ?_
      refine r_aload_n (μ := mX5_skipBlanks) (pc := 15) dX5_skipBlanks_15 rfl rfl rfl ?_
      refine r_getI (μ := mX5_skipBlanks) (pc := 16) dX5_skipBlanks_16 fpX5_19 rfl (hF _ _ rfl) (by decide) ?_
      rw [up_eq]
      refine r_iaload (μ := mX5_skipBlanks) (pc := 19) (j := c) dX5_skipBlanks_19 (hF _ _ rfl) rfl (by omega) (by decide) ?_
      rw [u4948]
      refine r_bipush (μ := mX5_skipBlanks) (pc := 20) (v := 32) dX5_skipBlanks_20 bp_32 ?_
      refine r_icmp_ne (μ := mX5_skipBlanks) (pc := 22) (tgt := 38) dX5_skipBlanks_22 (by decide) (fun h_22 => ?_) (fun h_22 => ?_)
      · have hf : blB tp (mi 49) c = false := by unfold blB; rw [decide_eq_false (show ¬ mi 49 c = 32 from h_22), Bool.and_false]
        rw [rnE_f hf] at he
        subst he
        exact r_vret (μ := mX5_skipBlanks) (pc := 38) dX5_skipBlanks_38 rfl hq
      · have hf : blB tp (mi 49) c = true := by unfold blB; rw [decide_eq_true (show mi 49 c = 32 from h_22), decide_eq_true hc2]; rfl
        rw [rnE_t hf (by omega)] at he
        refine r_aload_n (μ := mX5_skipBlanks) (pc := 25) dX5_skipBlanks_25 rfl rfl rfl ?_
        refine r_dup (μ := mX5_skipBlanks) (pc := 26) dX5_skipBlanks_26 rfl ?_
        refine r_getI (μ := mX5_skipBlanks) (pc := 27) dX5_skipBlanks_27 fpX5_19 rfl (hF _ _ rfl) (by decide) ?_
        rw [up_eq]
        refine r_iconst (μ := mX5_skipBlanks) (pc := 30) (v := 1) dX5_skipBlanks_30 ic_1 ?_
        refine r_iadd (μ := mX5_skipBlanks) (pc := 31) dX5_skipBlanks_31 ?_
        rw [show nI c + 1 = nI (c + 1) from (nI_succ c).symm]
        refine r_putI (μ := mX5_skipBlanks) (pc := 32) dX5_skipBlanks_32 fwX5_19 (hF _ _ rfl) (by decide) rfl ?_
        rw [uu]
        refine r_goto (μ := mX5_skipBlanks) (pc := 35) (tgt := 0) dX5_skipBlanks_35 (by decide) ?_
        exact ih (c + 1) (by omega) (by omega) he

theorem k_skip {d : Nat} {sh : List Sh} {mi : MI} {mr : MR} (hF : SHC sh) (hB : CB mr) {tp : Nat} (ht : mi 48 3 = nI tp) (h96 : tp ≤ 96) {c : Nat} (h2 : mi 48 2 = nI c) (hc : c ≤ tp) : CP d mX5_skipBlanks [.ref 48] sh mi mr 0 0 (PV sh mr (fun mi2 => mi2 = upI mi 48 2 (nI (rnE (blB tp (mi 49)) c)))) := by
  refine CP.of (L := [_]) (by decide) rfl rfl (Nat.le_of_ble_eq_true rfl) ?_
  have hl := lp_skip (d := d) (Q := PV sh mr (fun mi2 => mi2 = upI mi 48 2 (nI (rnE (blB tp (mi 49)) c)))) hF hB ht h96 (PV_i rfl) (96 - c) c (by omega) hc rfl
  rw [us h2] at hl
  exact hl

theorem lp_wl {d : Nat} {sh : List Sh} {mi : MI} {mr : MR} (hF : SHC sh) (hB : CB mr) {tp : Nat} (ht : mi 48 3 = nI tp) (h96 : tp ≤ 96) {Q : QT} {e : Nat} (hq : Q (some (.int (nI e))) sh mi mr) : ∀ (k c : Nat), c + k = 96 → c ≤ tp → rnE (ltB tp (mi 49)) c = e → WP (d + 1) mX5_wordEnd 20 [.ref 48, .int (nI c)] [] sh mi mr 0 0 Q := by
  intro k
  induction k with
  | zero =>
    intro c hk hc he
    have hf : ltB tp (mi 49) c = false := by unfold ltB; rw [decide_eq_false (by omega)]; rfl
    rw [rnE_f hf] at he
    subst he
    refine r_iload_n (μ := mX5_wordEnd) (pc := 20) dX5_wordEnd_20 rfl rfl ?_
    refine r_aload_n (μ := mX5_wordEnd) (pc := 21) dX5_wordEnd_21 rfl rfl rfl ?_
    refine r_getI (μ := mX5_wordEnd) (pc := 22) dX5_wordEnd_22 fpX5_22 rfl (hF _ _ rfl) (by decide) ?_
    rw [ht]
    refine r_icmp_ge (μ := mX5_wordEnd) (pc := 25) (tgt := 72) dX5_wordEnd_25 (by decide) (fun h_25 => ?_) (fun h_25 => absurd (nI_le (by omega) (by omega)) h_25)
    refine r_iload_n (μ := mX5_wordEnd) (pc := 72) dX5_wordEnd_72 rfl rfl ?_
    exact r_iret (μ := mX5_wordEnd) (pc := 73) dX5_wordEnd_73 rfl rfl hq
  | succ k ih =>
    intro c hk hc he
    refine r_iload_n (μ := mX5_wordEnd) (pc := 20) dX5_wordEnd_20 rfl rfl ?_
    refine r_aload_n (μ := mX5_wordEnd) (pc := 21) dX5_wordEnd_21 rfl rfl rfl ?_
    refine r_getI (μ := mX5_wordEnd) (pc := 22) dX5_wordEnd_22 fpX5_22 rfl (hF _ _ rfl) (by decide) ?_
    rw [ht]
    refine r_icmp_ge (μ := mX5_wordEnd) (pc := 25) (tgt := 72) dX5_wordEnd_25 (by decide) (fun h_25 => ?_) (fun h_25 => ?_)
    · have hf : ltB tp (mi 49) c = false := by unfold ltB; rw [decide_eq_false (by have := (nI_leI (by omega) (by omega)).mp h_25; omega)]; rfl
      rw [rnE_f hf] at he
      subst he
      refine r_iload_n (μ := mX5_wordEnd) (pc := 72) dX5_wordEnd_72 rfl rfl ?_
      exact r_iret (μ := mX5_wordEnd) (pc := 73) dX5_wordEnd_73 rfl rfl hq
    · have hc2 : c < tp := by have := mt (nI_leI (by omega) (by omega)).mpr h_25; omega
      refine r_aload_n (μ := mX5_wordEnd) (pc := 28) dX5_wordEnd_28 rfl rfl rfl ?_
      refine r_getR (μ := mX5_wordEnd) (pc := 29) dX5_wordEnd_29 fpX5_9 rfl (hF _ _ rfl) (by decide) (hB _ _ _ rfl) ?_
      refine r_iload_n (μ := mX5_wordEnd) (pc := 32) dX5_wordEnd_32 rfl rfl ?_
      refine r_iaload (μ := mX5_wordEnd) (pc := 33) (j := c) dX5_wordEnd_33 (hF _ _ rfl) rfl (by omega) (by decide) ?_
      refine sP1 (μ := mX5_wordEnd) (pc := 34) (μ2 := mX5_isLetter) dX5_wordEnd_34 lkX5_74 stX5_isLetter mwX5_isLetter (Nat.le_of_ble_eq_true rfl) k_isLetter ?_
      refine r_if_eq (μ := mX5_wordEnd) (pc := 37) (tgt := 72) dX5_wordEnd_37 (by decide) (fun h_37 => ?_) (fun h_37 => ?_)
      · have h_37 := b2i_0 h_37
        have hf : ltB tp (mi 49) c = false := by unfold ltB; rw [h_37, Bool.and_false]
        rw [rnE_f hf] at he
        subst he
        refine r_iload_n (μ := mX5_wordEnd) (pc := 72) dX5_wordEnd_72 rfl rfl ?_
        exact r_iret (μ := mX5_wordEnd) (pc := 73) dX5_wordEnd_73 rfl rfl hq
      · have h_37 := b2i_1 h_37
        have hf : ltB tp (mi 49) c = true := by unfold ltB; rw [h_37, decide_eq_true hc2]; rfl
        rw [rnE_t hf (by omega)] at he
        refine s_iinc (μ := mX5_wordEnd) (pc := 40) (c := 1) (L2 := [_, _]) dX5_wordEnd_40 rfl ic_1 (Nat.le_of_ble_eq_true rfl) rfl rfl ?_
        refine r_goto (μ := mX5_wordEnd) (pc := 43) (tgt := 20) dX5_wordEnd_43 (by decide) ?_
        exact WP.L (by rw [show nI (c + 1) = nI c + 1 from nI_succ c]) (ih (c + 1) (by omega) (by omega) he)

theorem lp_wd {d : Nat} {sh : List Sh} {mi : MI} {mr : MR} (hF : SHC sh) (hB : CB mr) {tp : Nat} (ht : mi 48 3 = nI tp) (h96 : tp ≤ 96) {Q : QT} {e : Nat} (hq : Q (some (.int (nI e))) sh mi mr) : ∀ (k c : Nat), c + k = 96 → c ≤ tp → rnE (dgB tp (mi 49)) c = e → WP (d + 1) mX5_wordEnd 46 [.ref 48, .int (nI c)] [] sh mi mr 0 0 Q := by
  intro k
  induction k with
  | zero =>
    intro c hk hc he
    have hf : dgB tp (mi 49) c = false := by unfold dgB; rw [decide_eq_false (by omega)]; rfl
    rw [rnE_f hf] at he
    subst he
    refine r_iload_n (μ := mX5_wordEnd) (pc := 46) dX5_wordEnd_46 rfl rfl ?_
    refine r_aload_n (μ := mX5_wordEnd) (pc := 47) dX5_wordEnd_47 rfl rfl rfl ?_
    refine r_getI (μ := mX5_wordEnd) (pc := 48) dX5_wordEnd_48 fpX5_22 rfl (hF _ _ rfl) (by decide) ?_
    rw [ht]
    refine r_icmp_ge (μ := mX5_wordEnd) (pc := 51) (tgt := 72) dX5_wordEnd_51 (by decide) (fun h_51 => ?_) (fun h_51 => absurd (nI_le (by omega) (by omega)) h_51)
    refine r_iload_n (μ := mX5_wordEnd) (pc := 72) dX5_wordEnd_72 rfl rfl ?_
    exact r_iret (μ := mX5_wordEnd) (pc := 73) dX5_wordEnd_73 rfl rfl hq
  | succ k ih =>
    intro c hk hc he
    refine r_iload_n (μ := mX5_wordEnd) (pc := 46) dX5_wordEnd_46 rfl rfl ?_
    refine r_aload_n (μ := mX5_wordEnd) (pc := 47) dX5_wordEnd_47 rfl rfl rfl ?_
    refine r_getI (μ := mX5_wordEnd) (pc := 48) dX5_wordEnd_48 fpX5_22 rfl (hF _ _ rfl) (by decide) ?_
    rw [ht]
    refine r_icmp_ge (μ := mX5_wordEnd) (pc := 51) (tgt := 72) dX5_wordEnd_51 (by decide) (fun h_51 => ?_) (fun h_51 => ?_)
    · have hf : dgB tp (mi 49) c = false := by unfold dgB; rw [decide_eq_false (by have := (nI_leI (by omega) (by omega)).mp h_51; omega)]; rfl
      rw [rnE_f hf] at he
      subst he
      refine r_iload_n (μ := mX5_wordEnd) (pc := 72) dX5_wordEnd_72 rfl rfl ?_
      exact r_iret (μ := mX5_wordEnd) (pc := 73) dX5_wordEnd_73 rfl rfl hq
    · have hc2 : c < tp := by have := mt (nI_leI (by omega) (by omega)).mpr h_51; omega
      refine r_aload_n (μ := mX5_wordEnd) (pc := 54) dX5_wordEnd_54 rfl rfl rfl ?_
      refine r_getR (μ := mX5_wordEnd) (pc := 55) dX5_wordEnd_55 fpX5_9 rfl (hF _ _ rfl) (by decide) (hB _ _ _ rfl) ?_
      refine r_iload_n (μ := mX5_wordEnd) (pc := 58) dX5_wordEnd_58 rfl rfl ?_
      refine r_iaload (μ := mX5_wordEnd) (pc := 59) (j := c) dX5_wordEnd_59 (hF _ _ rfl) rfl (by omega) (by decide) ?_
      refine sP1 (μ := mX5_wordEnd) (pc := 60) (μ2 := mX5_isDigit) dX5_wordEnd_60 lkX5_78 stX5_isDigit mwX5_isDigit (Nat.le_of_ble_eq_true rfl) k_isDigit ?_
      refine r_if_eq (μ := mX5_wordEnd) (pc := 63) (tgt := 72) dX5_wordEnd_63 (by decide) (fun h_63 => ?_) (fun h_63 => ?_)
      · have h_63 := b2i_0 h_63
        have hf : dgB tp (mi 49) c = false := by unfold dgB; rw [h_63, Bool.and_false]
        rw [rnE_f hf] at he
        subst he
        refine r_iload_n (μ := mX5_wordEnd) (pc := 72) dX5_wordEnd_72 rfl rfl ?_
        exact r_iret (μ := mX5_wordEnd) (pc := 73) dX5_wordEnd_73 rfl rfl hq
      · have h_63 := b2i_1 h_63
        have hf : dgB tp (mi 49) c = true := by unfold dgB; rw [h_63, decide_eq_true hc2]; rfl
        rw [rnE_t hf (by omega)] at he
        refine s_iinc (μ := mX5_wordEnd) (pc := 66) (c := 1) (L2 := [_, _]) dX5_wordEnd_66 rfl ic_1 (Nat.le_of_ble_eq_true rfl) rfl rfl ?_
        refine r_goto (μ := mX5_wordEnd) (pc := 69) (tgt := 46) dX5_wordEnd_69 (by decide) ?_
        exact WP.L (by rw [show nI (c + 1) = nI c + 1 from nI_succ c]) (ih (c + 1) (by omega) (by omega) he)

def wdE (tp : Nat) (T : Rw) (c : Nat) : Nat := if ltB tp T c = true then rnE (ltB tp T) c else rnE (dgB tp T) c

theorem k_wordEnd {d : Nat} {sh : List Sh} {mi : MI} {mr : MR} (hF : SHC sh) (hB : CB mr) {tp : Nat} (ht : mi 48 3 = nI tp) (h96 : tp ≤ 96) {c : Nat} (h2 : mi 48 2 = nI c) (hc : c < tp) : CP (d + 1) mX5_wordEnd [.ref 48] sh mi mr 0 0 (PI (nI (wdE tp (mi 49) c)) sh mi mr) := by
  refine CP.of (L := [_, _]) (by decide) rfl rfl (Nat.le_of_ble_eq_true rfl) ?_
  refine r_aload_n (μ := mX5_wordEnd) (pc := 0) dX5_wordEnd_0 rfl rfl rfl ?_
  refine r_getI (μ := mX5_wordEnd) (pc := 1) dX5_wordEnd_1 fpX5_19 rfl (hF _ _ rfl) (by decide) ?_
  rw [h2]
  refine s_istore_n (μ := mX5_wordEnd) (pc := 4) (L2 := [_, _]) dX5_wordEnd_4 rfl (Nat.le_of_ble_eq_true rfl) (Nat.le_of_ble_eq_true rfl) rfl rfl ?_
  refine r_aload_n (μ := mX5_wordEnd) (pc := 5) dX5_wordEnd_5 rfl rfl rfl ?_
  refine r_getR (μ := mX5_wordEnd) (pc := 6) dX5_wordEnd_6 fpX5_9 rfl (hF _ _ rfl) (by decide) (hB _ _ _ rfl) ?_
  refine r_aload_n (μ := mX5_wordEnd) (pc := 9) dX5_wordEnd_9 rfl rfl rfl ?_
  refine r_getI (μ := mX5_wordEnd) (pc := 10) dX5_wordEnd_10 fpX5_19 rfl (hF _ _ rfl) (by decide) ?_
  rw [h2]
  refine r_iaload (μ := mX5_wordEnd) (pc := 13) (j := c) dX5_wordEnd_13 (hF _ _ rfl) rfl (by omega) (by decide) ?_
  refine sP1 (μ := mX5_wordEnd) (pc := 14) (μ2 := mX5_isLetter) dX5_wordEnd_14 lkX5_74 stX5_isLetter mwX5_isLetter (Nat.le_of_ble_eq_true rfl) k_isLetter ?_
  refine r_if_eq (μ := mX5_wordEnd) (pc := 17) (tgt := 46) dX5_wordEnd_17 (by decide) (fun h_17 => ?_) (fun h_17 => ?_)
  · have h_17 := b2i_0 h_17
    have hf : ltB tp (mi 49) c = false := by unfold ltB; rw [h_17, Bool.and_false]
    exact lp_wd hF hB ht h96 (PI_i (by unfold wdE; rw [hf]; rfl)) (96 - c) c (by omega) (by omega) rfl
  · have h_17 := b2i_1 h_17
    have hf : ltB tp (mi 49) c = true := by unfold ltB; rw [h_17, decide_eq_true hc]; rfl
    exact lp_wl hF hB ht h96 (PI_i (by unfold wdE; rw [if_pos hf])) (96 - c) c (by omega) (by omega) rfl

def wq (T : Rw) (b i : Nat) : Nat → Nat → Bool
  | 0, _ => true
  | k + 1, x => decide (T (b + x) = sBy i x) && wq T b i k (x + 1)

theorem lp_isw {d : Nat} {sh : List Sh} {mi : MI} {mr : MR} (hF : SHC sh) (hB : CB mr) {Q : QT} {i : Nat} (hi : i < 6) {b e : Nat} (h2 : mi 48 2 = nI b) (hb : b + sLen i ≤ 96) {res : Bool} (hq : Q (some (.int (b2i res))) sh mi mr) : ∀ (k x : Nat), x + k = sLen i → wq (mi 49) b i k x = res → WP (d + 4) mX5_isWord 17 [.ref 48, .float (UInt32.ofNat (2 * i)), .int (nI e), .int (nI x)] [] sh mi mr 0 0 Q := by
  have hl := sLen_4 i hi
  intro k
  induction k with
  | zero =>
    intro x hk he
    obtain rfl : x = sLen i := by omega
    obtain rfl : true = res := he
    refine r_iload_n (μ := mX5_isWord) (pc := 17) dX5_isWord_17 rfl rfl ?_
    refine r_aload_n (μ := mX5_isWord) (pc := 18) dX5_isWord_18 rfl rfl rfl ?_
    refine vS0 (μ := mX5_isWord) (pc := 19) (μ2 := mJ0_length_8abf5) (i := i) dX5_isWord_19 hi lkX5_93 imJ0_length_8abf5 seJ0_J0_length_8abf5_J0_length_8abf5 mwJ0_length_8abf5 (Nat.le_of_ble_eq_true rfl) (k_slength hi) ?_
    refine r_icmp_ge (μ := mX5_isWord) (pc := 22) (tgt := 52) dX5_isWord_22 (by decide) (fun h_22 => ?_) (fun h_22 => absurd (nI_le (Nat.le_refl _) (by omega)) h_22)
    refine r_iconst (μ := mX5_isWord) (pc := 52) (v := 1) dX5_isWord_52 ic_1 ?_
    exact r_iret (μ := mX5_isWord) (pc := 53) dX5_isWord_53 rfl rfl hq
  | succ k ih =>
    intro x hk he
    have hx2 : x < sLen i := by omega
    have he : (decide (mi 49 (b + x) = sBy i x) && wq (mi 49) b i k (x + 1)) = res := he
    refine r_iload_n (μ := mX5_isWord) (pc := 17) dX5_isWord_17 rfl rfl ?_
    refine r_aload_n (μ := mX5_isWord) (pc := 18) dX5_isWord_18 rfl rfl rfl ?_
    refine vS0 (μ := mX5_isWord) (pc := 19) (μ2 := mJ0_length_8abf5) (i := i) dX5_isWord_19 hi lkX5_93 imJ0_length_8abf5 seJ0_J0_length_8abf5_J0_length_8abf5 mwJ0_length_8abf5 (Nat.le_of_ble_eq_true rfl) (k_slength hi) ?_
    refine r_icmp_ge (μ := mX5_isWord) (pc := 22) (tgt := 52) dX5_isWord_22 (by decide) (fun h_22 => absurd h_22 (nI_ge hx2 (by omega))) (fun h_22 => ?_)
    refine r_aload_n (μ := mX5_isWord) (pc := 25) dX5_isWord_25 rfl rfl rfl ?_
    refine r_getR (μ := mX5_isWord) (pc := 26) dX5_isWord_26 fpX5_9 rfl (hF _ _ rfl) (by decide) (hB _ _ _ rfl) ?_
    refine r_aload_n (μ := mX5_isWord) (pc := 29) dX5_isWord_29 rfl rfl rfl ?_
    refine r_getI (μ := mX5_isWord) (pc := 30) dX5_isWord_30 fpX5_19 rfl (hF _ _ rfl) (by decide) ?_
    rw [h2]
    refine r_iload_n (μ := mX5_isWord) (pc := 33) dX5_isWord_33 rfl rfl ?_
    refine r_iadd (μ := mX5_isWord) (pc := 34) dX5_isWord_34 ?_
    refine r_iaload (μ := mX5_isWord) (pc := 35) (j := (b + x)) dX5_isWord_35 (hF _ _ rfl) (by simp only [← nI_add, ← pk_mul] <;> rfl) (by omega) (by decide) ?_
    refine r_aload_n (μ := mX5_isWord) (pc := 36) dX5_isWord_36 rfl rfl rfl ?_
    refine r_iload_n (μ := mX5_isWord) (pc := 37) dX5_isWord_37 rfl rfl ?_
    refine vS1 (μ := mX5_isWord) (pc := 38) (μ2 := mJ0_charAt_5068e) (i := i) dX5_isWord_38 hi lkX5_99 imJ0_charAt_5068e seJ0_J0_charAt_5068e_J0_charAt_5068e mwJ0_charAt_5068e (Nat.le_of_ble_eq_true rfl) (k_charAt hi hx2) ?_
    refine r_icmp_eq (μ := mX5_isWord) (pc := 41) (tgt := 46) dX5_isWord_41 (by decide) (fun h_41 => ?_) (fun h_41 => ?_)
    · rw [decide_eq_true (show mi 49 (b + x) = sBy i x from h_41), Bool.true_and] at he
      refine s_iinc (μ := mX5_isWord) (pc := 46) (c := 1) (L2 := [_, _, _, _]) dX5_isWord_46 rfl ic_1 (Nat.le_of_ble_eq_true rfl) rfl rfl ?_
      refine r_goto (μ := mX5_isWord) (pc := 49) (tgt := 17) dX5_isWord_49 (by decide) ?_
      exact WP.L (by rw [show nI (x + 1) = nI x + 1 from nI_succ x]) (ih (x + 1) (by omega) he)
    · rw [decide_eq_false (show ¬ mi 49 (b + x) = sBy i x from h_41), Bool.false_and] at he
      subst he
      refine r_iconst (μ := mX5_isWord) (pc := 44) (v := 0) dX5_isWord_44 ic_0 ?_
      exact r_iret (μ := mX5_isWord) (pc := 45) dX5_isWord_45 rfl rfl hq

theorem k_isWord {d : Nat} {sh : List Sh} {mi : MI} {mr : MR} (hF : SHC sh) (hB : CB mr) {i : Nat} (hi : i < 6) {b e : Nat} (h2 : mi 48 2 = nI b) (hbe : b ≤ e) (he : e ≤ 96) : CP (d + 4) mX5_isWord [.ref 48, .float (UInt32.ofNat (2 * i)), .int (nI e)] sh mi mr 0 0 (PI (b2i (decide (e - b = sLen i) && wq (mi 49) b i (sLen i) 0)) sh mi mr) := by
  have hl := sLen_4 i hi
  refine CP.of (L := [_, _, _, _]) (by decide) rfl rfl (Nat.le_of_ble_eq_true rfl) ?_
  refine r_iload_n (μ := mX5_isWord) (pc := 0) dX5_isWord_0 rfl rfl ?_
  refine r_aload_n (μ := mX5_isWord) (pc := 1) dX5_isWord_1 rfl rfl rfl ?_
  refine r_getI (μ := mX5_isWord) (pc := 2) dX5_isWord_2 fpX5_19 rfl (hF _ _ rfl) (by decide) ?_
  rw [h2]
  refine r_isub (μ := mX5_isWord) (pc := 5) dX5_isWord_5 ?_
  rw [pk_sub hbe]
  refine r_aload_n (μ := mX5_isWord) (pc := 6) dX5_isWord_6 rfl rfl rfl ?_
  refine vS0 (μ := mX5_isWord) (pc := 7) (μ2 := mJ0_length_8abf5) (i := i) dX5_isWord_7 hi lkX5_93 imJ0_length_8abf5 seJ0_J0_length_8abf5_J0_length_8abf5 mwJ0_length_8abf5 (Nat.le_of_ble_eq_true rfl) (k_slength hi) ?_
  refine r_icmp_eq (μ := mX5_isWord) (pc := 10) (tgt := 15) dX5_isWord_10 (by decide) (fun h_10 => ?_) (fun h_10 => ?_)
  · have h10 : e - b = sLen i := (nI_eq (by omega) (by omega)).mp h_10
    refine r_iconst (μ := mX5_isWord) (pc := 15) (v := 0) dX5_isWord_15 ic_0 ?_
    refine s_istore_n (μ := mX5_isWord) (pc := 16) (L2 := [_, _, _, _]) dX5_isWord_16 rfl (Nat.le_of_ble_eq_true rfl) (Nat.le_of_ble_eq_true rfl) rfl rfl ?_
    exact lp_isw hF hB hi h2 (by omega) (PI_i (by rw [decide_eq_true h10, Bool.true_and])) (sLen i) 0 (Nat.zero_add _) rfl
  · have h10 : ¬ e - b = sLen i := fun z => h_10 (by rw [z])
    refine r_iconst (μ := mX5_isWord) (pc := 13) (v := 0) dX5_isWord_13 ic_0 ?_
    exact r_iret (μ := mX5_isWord) (pc := 14) dX5_isWord_14 rfl rfl (PI_i (by rw [decide_eq_false h10]; rfl))

theorem wq_4 (T : Rw) (b i : Nat) : wq T b i 4 0 = (decide (T (b + 0) = sBy i 0) && (decide (T (b + 1) = sBy i 1) && (decide (T (b + 2) = sBy i 2) && (decide (T (b + 3) = sBy i 3) && true)))) := rfl
theorem wq_k {tp : Nat} {T : Rw} {c kt : Nat} (hkt : kt < 3) (hc : c < tp) (hct : rnE (blB tp T) 0 = c) : (decide (wdE tp T c - c = sLen kt) && wq T c kt (sLen kt) 0) = decide (kyP tp T = nI kt) := by
  have hne : ¬ c = tp := by omega
  have hwl : ∀ {x y z w : Int32}, ltB tp T c = false → inB x 97 122 = true → (decide (wdE tp T c - c = 4) && (decide (T (c + 0) = x) && (decide (T (c + 1) = y) && (decide (T (c + 2) = z) && (decide (T (c + 3) = w) && true))))) = false := by
    intro x y z w hf hx
    have : ¬ T (c + 0) = x := fun q => by
      unfold ltB at hf
      rw [show T c = x from q, hx, decide_eq_true hc] at hf
      cases hf
    rw [decide_eq_false this, Bool.false_and, Bool.and_false]
  cases hlt : ltB tp T c with
  | false =>
    have hk : kyP tp T = -1 := by
      unfold kyP tk1
      cases hd : dgB tp T c with
      | true =>
        rw [nxT_d hct hne hlt hd rfl]
        have : ∀ k : Int32, ¬ k = 1 → ∀ b e, keyB T b e k = -1 := by
          intro k hk b e
          unfold keyB wdB
          rw [decide_eq_false hk]
          rfl
        refine this _ ?_ _ _
        show ¬ (if _ then (4 : Int32) else 2) = 1
        split <;> decide
      | false =>
        rw [nxT_s hct hne hlt hd]
        rfl
    rw [hk]
    have h3 : ∀ kt, kt < 3 → decide ((-1 : Int32) = nI kt) = false := by decide
    rw [h3 kt hkt]
    match kt, hkt with
    | 0, _ => exact hwl hlt rfl
    | 1, _ => exact hwl hlt rfl
    | 2, _ => exact hwl hlt rfl
  | true =>
    have ht : tk1 tp T = (c, rnE (ltB tp T) c, 1, 0, if rnE (ltB tp T) c - c = 1 then T c else 0) := by
      unfold tk1
      rw [nxT_l hct hne hlt rfl]
      rfl
    have hw : wdE tp T c = rnE (ltB tp T) c := by unfold wdE; rw [hlt]; rfl
    obtain ⟨e, he⟩ : ∃ e, rnE (ltB tp T) c = e := ⟨_, rfl⟩
    have hk : kyP tp T = keyB T c e 1 := by unfold kyP; rw [ht, he]; rfl
    rw [hk, hw, he]
    unfold keyB wdB
    have w4 : ∀ i, wq T c i 4 0 = (decide (T (c + 0) = sBy i 0) && (decide (T (c + 1) = sBy i 1) && (decide (T (c + 2) = sBy i 2) && (decide (T (c + 3) = sBy i 3) && true)))) := wq_4 T c
    match kt, hkt with
    | 0, _ =>
      show (decide (e - c = 4) && wq T c 0 4 0) = _
      rw [w4]
      show (decide (e - c = 4) && (decide (T c = 108) && (decide (T (c + 1) = 101) && (decide (T (c + 2) = 97) && (decide (T (c + 3) = 110) && true))))) = _
      by_cases a0 : e - c = 4 <;> by_cases a1 : T c = 108 <;> by_cases a2 : T (c + 1) = 101 <;> by_cases a3 : T (c + 2) = 97 <;> by_cases a4 : T (c + 3) = 110 <;> simp [a0, a1, a2, a3, a4] <;> (repeat' split) <;> decide
    | 1, _ =>
      show (decide (e - c = 4) && wq T c 1 4 0) = _
      rw [w4]
      show (decide (e - c = 4) && (decide (T c = 109) && (decide (T (c + 1) = 111) && (decide (T (c + 2) = 118) && (decide (T (c + 3) = 101) && true))))) = _
      by_cases a0 : e - c = 4 <;> by_cases a1 : T c = 109 <;> by_cases a2 : T (c + 1) = 111 <;> by_cases a3 : T (c + 2) = 118 <;> by_cases a4 : T (c + 3) = 101 <;> simp [a0, a1, a2, a3, a4] <;> (repeat' split) <;> decide
    | 2, _ =>
      show (decide (e - c = 4) && wq T c 2 4 0) = _
      rw [w4]
      show (decide (e - c = 4) && (decide (T c = 116) && (decide (T (c + 1) = 111) && (decide (T (c + 2) = 108) && (decide (T (c + 3) = 108) && true))))) = _
      by_cases a0 : e - c = 4 <;> by_cases a1 : T c = 116 <;> by_cases a2 : T (c + 1) = 111 <;> by_cases a3 : T (c + 2) = 108 <;> by_cases a4 : T (c + 3) = 108 <;> simp [a0, a1, a2, a3, a4] <;> (repeat' split) <;> decide

