theorem ky_lt {tp : Nat} {T : Rw} {c : Nat} (hc : c < tp) (hct : rnE (blB tp T) 0 = c) (hk : ¬ kyP tp T = -1) : tk1 tp T = (c, wdE tp T c, 1, 0, if rnE (ltB tp T) c - c = 1 then T c else 0) ∧ ltB tp T c = true ∧ wdE tp T c - c = 4 := by
  have hne : ¬ c = tp := by omega
  obtain ⟨kt, hkt, hkk⟩ : ∃ kt, kt < 3 ∧ kyP tp T = nI kt := by
    rcases (kyP_c tp T).resolve_left hk with z | z | z
    · exact ⟨0, by decide, z⟩
    · exact ⟨1, by decide, z⟩
    · exact ⟨2, by decide, z⟩
  have hw := wq_k hkt hc hct
  rw [decide_eq_true hkk] at hw
  simp only [Bool.and_eq_true, decide_eq_true_eq] at hw
  have h4 : wdE tp T c - c = 4 := by
    rw [hw.1]
    exact (by decide : ∀ kt, kt < 3 → sLen kt = 4) kt hkt
  cases hlt : ltB tp T c with
  | true =>
    refine ⟨?_, rfl, h4⟩
    have hwd : wdE tp T c = rnE (ltB tp T) c := by unfold wdE; rw [hlt]; rfl
    rw [hwd]
    unfold tk1
    rw [nxT_l hct hne hlt rfl]
    rfl
  | false =>
    exfalso
    refine hk ?_
    unfold kyP tk1
    cases hd : dgB tp T c with
    | true =>
      rw [nxT_d hct hne hlt hd rfl]
      have : ∀ k : Int32, ¬ k = 1 → ∀ b e, keyB T b e k = -1 := by
        intro k hk b e
        unfold keyB wdB
        rw [decide_eq_false hk]
        rfl
      refine this _ ?_ _ _
      show ¬ (if _ then (4 : Int32) else 2) = 1
      split <;> decide
    | false =>
      rw [nxT_s hct hne hlt hd]
      rfl
theorem tk1_b {tp : Nat} {T : Rw} {c : Nat} (hct : rnE (blB tp T) 0 = c) : Tok.b (tk1 tp T) = c := by
  unfold tk1
  by_cases h : c = tp
  · rw [nxT_0 hct h]; rfl
  · cases hl : ltB tp T c with
    | true => rw [nxT_l hct h hl rfl]; rfl
    | false =>
      cases hd : dgB tp T c with
      | true => rw [nxT_d hct h hl hd rfl]; rfl
      | false => rw [nxT_s hct h hl hd]; rfl
theorem ky_end {tp : Nat} {T : Rw} {c : Nat} (hct : rnE (blB tp T) 0 = c) (h : c = tp) : kyP tp T = -1 := by
  unfold kyP tk1
  rw [nxT_0 hct h]
  rfl
theorem lp_key {d : Nat} {sh : List Sh} {mi : MI} {mr : MR} (hF : SHC sh) (hB : CB mr) {tp : Nat} (ht : mi 48 3 = nI tp) (h96 : tp ≤ 96) {c e : Nat} (hct : rnE (blB tp (mi 49)) 0 = c) (hc : c < tp) (he : wdE tp (mi 49) c = e) (hce : c ≤ e) (he96 : e ≤ 96) : ∀ (k i : Nat), i + k = 3 → (∀ j, j < i → ¬ (kyP tp (mi 49)) = nI j) → WP (d + 5) mX5_readKey 27 [.ref 48, .int (nI i)] [] sh (upI (upI mi 48 2 (nI c)) 48 5 (nI e)) mr 0 0 (PX sh mr (fun r mi2 => (∀ a, a ≠ 48 → mi2 a = mi a) ∧ (∀ j, j ≠ 2 → j ≠ 4 → j ≠ 5 → mi2 48 j = mi 48 j) ∧ ((kyP tp (mi 49)) = -1 → r = 0 ∧ mi2 48 2 = nI (Tok.b (tk1 tp (mi 49)))) ∧ (¬ (kyP tp (mi 49)) = -1 → r = 1 ∧ mi2 48 2 = nI (Tok.e (tk1 tp (mi 49))) ∧ mi2 48 4 = (kyP tp (mi 49)) ∧ mi2 48 5 = nI (Tok.e (tk1 tp (mi 49)))))) := by
  intro k
  induction k with
  | zero =>
    intro i hk hj
    obtain rfl : i = 3 := by omega
    have hk1 : (kyP tp (mi 49)) = -1 := by
      rcases kyP_c tp (mi 49) with z | z | z | z
      · exact z
      · exact absurd z (hj 0 (by decide))
      · exact absurd z (hj 1 (by decide))
      · exact absurd z (hj 2 (by decide))
    refine r_iload_n (μ := mX5_readKey) (pc := 27) dX5_readKey_27 rfl rfl ?_
    refine r_iconst (μ := mX5_readKey) (pc := 28) (v := 3) dX5_readKey_28 ic_3 ?_
    refine r_icmp_ge (μ := mX5_readKey) (pc := 29) (tgt := 68) dX5_readKey_29 (by decide) (fun h_29 => ?_) (fun h_29 => absurd (by decide) h_29)
    refine r_iconst (μ := mX5_readKey) (pc := 68) (v := 0) dX5_readKey_68 ic_0 ?_
    exact r_iret (μ := mX5_readKey) (pc := 69) dX5_readKey_69 rfl rfl (PX_i ⟨fun a x => by rw [upI_ne x, upI_ne x], fun j x y z => by rw [up_ne z, up_ne x], fun _ => ⟨rfl, by rw [up_ne (by decide), up_eq, tk1_b hct]⟩, fun z => absurd hk1 z⟩)
  | succ k ih =>
    intro i hk hj
    have hi3 : i < 3 := by omega
    have h49 : (upI (upI mi 48 2 (nI c)) 48 5 (nI e)) 49 = mi 49 := by rw [upI_ne (by decide), upI_ne (by decide)]
    have hwk : (decide (e - c = sLen i) && wq ((upI (upI mi 48 2 (nI c)) 48 5 (nI e)) 49) c i (sLen i) 0) = decide ((kyP tp (mi 49)) = nI i) := by rw [h49, ← he]; exact wq_k hi3 hc hct
    refine r_iload_n (μ := mX5_readKey) (pc := 27) dX5_readKey_27 rfl rfl ?_
    refine r_iconst (μ := mX5_readKey) (pc := 28) (v := 3) dX5_readKey_28 ic_3 ?_
    refine r_icmp_ge (μ := mX5_readKey) (pc := 29) (tgt := 68) dX5_readKey_29 (by decide) (fun h_29 => absurd h_29 (nI_ge (b := 3) hi3 (by decide))) (fun h_29 => ?_)
    refine r_aload_n (μ := mX5_readKey) (pc := 32) dX5_readKey_32 rfl rfl rfl ?_
    refine r_iload_n (μ := mX5_readKey) (pc := 33) dX5_readKey_33 rfl rfl ?_
    refine sR1 (μ := mX5_readKey) (pc := 34) (μ2 := mX5_keyWord) dX5_readKey_34 lkX5_109 stX5_keyWord mwX5_keyWord (Nat.le_of_ble_eq_true rfl) (k_keyWord hi3) ?_
    refine r_aload_n (μ := mX5_readKey) (pc := 37) dX5_readKey_37 rfl rfl rfl ?_
    refine r_getI (μ := mX5_readKey) (pc := 38) dX5_readKey_38 fpX5_28 rfl (hF _ _ rfl) (by decide) ?_
    rw [up_eq]
    refine vP2 (μ := mX5_readKey) (pc := 41) (c0 := 5) (q0 := (RX5, TX5, 14)) (μ2 := mX5_isWord) dX5_readKey_41 (hF _ _ rfl) rfl lkX5_113 imX5_isWord seX5_X5_isWord_X5_isWord mwX5_isWord (Nat.le_of_ble_eq_true rfl) (k_isWord hF hB (b := c) (e := e) (show i < 6 by omega) (by rw [up_ne (by decide), up_eq]) hce he96) ?_
    rw [hwk]
    refine r_if_eq (μ := mX5_readKey) (pc := 44) (tgt := 62) dX5_readKey_44 (by decide) (fun h_44 => ?_) (fun h_44 => ?_)
    · have h_44 := b2i_0 h_44
      have hki := of_decide_eq_false h_44
      refine s_iinc (μ := mX5_readKey) (pc := 62) (c := 1) (L2 := [_, _]) dX5_readKey_62 rfl ic_1 (Nat.le_of_ble_eq_true rfl) rfl rfl ?_
      refine r_goto (μ := mX5_readKey) (pc := 65) (tgt := 27) dX5_readKey_65 (by decide) ?_
      exact WP.L (by rw [show nI (i + 1) = nI i + 1 from nI_succ i]) (ih (i + 1) (by omega) (fun j hj2 => (Nat.lt_or_ge j i).elim (fun z => hj j z) (fun z => by obtain rfl : j = i := (by omega); exact hki)))
    · have h_44 := b2i_1 h_44
      have hki := of_decide_eq_true h_44
      have hkn : ¬ (kyP tp (mi 49)) = -1 := by rw [hki]; exact (by decide : ∀ i, i < 3 → ¬ nI i = -1) i hi3
      have hte : Tok.e (tk1 tp (mi 49)) = e := by rw [(ky_lt hc hct hkn).1]; exact he
      refine r_aload_n (μ := mX5_readKey) (pc := 47) dX5_readKey_47 rfl rfl rfl ?_
      refine r_iload_n (μ := mX5_readKey) (pc := 48) dX5_readKey_48 rfl rfl ?_
      refine r_putI (μ := mX5_readKey) (pc := 49) dX5_readKey_49 fwX5_25 (hF _ _ rfl) (by decide) rfl ?_
      refine r_aload_n (μ := mX5_readKey) (pc := 52) dX5_readKey_52 rfl rfl rfl ?_
      refine r_aload_n (μ := mX5_readKey) (pc := 53) dX5_readKey_53 rfl rfl rfl ?_
      refine r_getI (μ := mX5_readKey) (pc := 54) dX5_readKey_54 fpX5_28 rfl (hF _ _ rfl) (by decide) ?_
      rw [up_ne (by decide), up_eq]
      refine r_putI (μ := mX5_readKey) (pc := 57) dX5_readKey_57 fwX5_19 (hF _ _ rfl) (by decide) rfl ?_
      refine r_iconst (μ := mX5_readKey) (pc := 60) (v := 1) dX5_readKey_60 ic_1 ?_
      exact r_iret (μ := mX5_readKey) (pc := 61) dX5_readKey_61 rfl rfl (PX_i ⟨fun a x => by rw [upI_ne x, upI_ne x, upI_ne x, upI_ne x], fun j x y z => by rw [up_ne x, up_ne y, up_ne z, up_ne x], fun z => absurd z hkn, fun _ => ⟨rfl, by rw [up_eq, hte], by rw [up_ne (by decide), up_eq, hki], by rw [up_ne (by decide), up_ne (by decide), up_eq, hte]⟩⟩)

theorem k_readKey {d : Nat} {sh : List Sh} {mi : MI} {mr : MR} (hF : SHC sh) (hB : CB mr) {tp : Nat} (ht : mi 48 3 = nI tp) (h96 : tp ≤ 96) (h2 : mi 48 2 = nI 0) : CP (d + 6 - 1) mX5_readKey [.ref 48] sh mi mr 0 0 (PX sh mr (fun r mi2 => (∀ a, a ≠ 48 → mi2 a = mi a) ∧ (∀ j, j ≠ 2 → j ≠ 4 → j ≠ 5 → mi2 48 j = mi 48 j) ∧ ((kyP tp (mi 49)) = -1 → r = 0 ∧ mi2 48 2 = nI (Tok.b (tk1 tp (mi 49)))) ∧ (¬ (kyP tp (mi 49)) = -1 → r = 1 ∧ mi2 48 2 = nI (Tok.e (tk1 tp (mi 49))) ∧ mi2 48 4 = (kyP tp (mi 49)) ∧ mi2 48 5 = nI (Tok.e (tk1 tp (mi 49)))))) := by
  obtain ⟨c, hct⟩ : ∃ c, rnE (blB tp (mi 49)) 0 = c := ⟨_, rfl⟩
  have hctp := (rnE_le blB_lt (Nat.zero_le tp) : _ ∧ rnE (blB tp (mi 49)) 0 ≤ tp)
  rw [hct] at hctp
  refine CP.of (L := [_, _]) (by decide) rfl rfl (Nat.le_of_ble_eq_true rfl) ?_
  refine r_aload_n (μ := mX5_readKey) (pc := 0) dX5_readKey_0 rfl rfl rfl ?_
  refine vV0 (μ := mX5_readKey) (pc := 1) (c0 := 5) (q0 := (RX5, TX5, 14)) (μ2 := mX5_skipBlanks) dX5_readKey_1 (hF _ _ rfl) rfl lkX5_103 imX5_skipBlanks seX5_X5_skipBlanks_X5_skipBlanks mwX5_skipBlanks (Nat.le_of_ble_eq_true rfl) (k_skip hF hB ht h96 h2 (Nat.zero_le _)) (fun mi_1 h_1 => ?_)
  subst h_1
  rw [hct]
  refine r_aload_n (μ := mX5_readKey) (pc := 4) dX5_readKey_4 rfl rfl rfl ?_
  refine r_getI (μ := mX5_readKey) (pc := 5) dX5_readKey_5 fpX5_19 rfl (hF _ _ rfl) (by decide) ?_
  rw [up_eq]
  refine r_aload_n (μ := mX5_readKey) (pc := 8) dX5_readKey_8 rfl rfl rfl ?_
  refine r_getI (μ := mX5_readKey) (pc := 9) dX5_readKey_9 fpX5_22 rfl (hF _ _ rfl) (by decide) ?_
  rw [up_ne (by decide), ht]
  refine r_icmp_lt (μ := mX5_readKey) (pc := 12) (tgt := 17) dX5_readKey_12 (by decide) (fun h_12 => ?_) (fun h_12 => ?_)
  · have h12 : c < tp := (nI_ltI (by omega) (by omega)).mp h_12
    refine r_aload_n (μ := mX5_readKey) (pc := 17) dX5_readKey_17 rfl rfl rfl ?_
    refine r_aload_n (μ := mX5_readKey) (pc := 18) dX5_readKey_18 rfl rfl rfl ?_
    refine vP0 (μ := mX5_readKey) (pc := 19) (c0 := 5) (q0 := (RX5, TX5, 14)) (μ2 := mX5_wordEnd) dX5_readKey_19 (hF _ _ rfl) rfl lkX5_106 imX5_wordEnd seX5_X5_wordEnd_X5_wordEnd mwX5_wordEnd (Nat.le_of_ble_eq_true rfl) (k_wordEnd (d := d + 3) (tp := tp) (c := c) hF hB (by rw [up_ne (by decide)]; exact ht) h96 up_eq h12) ?_
    rw [u4948]
    refine r_putI (μ := mX5_readKey) (pc := 22) dX5_readKey_22 fwX5_28 (hF _ _ rfl) (by decide) rfl ?_
    refine r_iconst (μ := mX5_readKey) (pc := 25) (v := 0) dX5_readKey_25 ic_0 ?_
    refine s_istore_n (μ := mX5_readKey) (pc := 26) (L2 := [_, _]) dX5_readKey_26 rfl (Nat.le_of_ble_eq_true rfl) (Nat.le_of_ble_eq_true rfl) rfl rfl ?_
    obtain ⟨e, he⟩ : ∃ e, wdE tp (mi 49) c = e := ⟨_, rfl⟩
    have hce : c ≤ e ∧ e ≤ tp := by rw [← he]; unfold wdE; split; (· exact rnE_le ltB_lt hctp.2); (· exact rnE_le dgB_lt hctp.2)
    rw [he]
    exact lp_key hF hB ht h96 hct h12 he hce.1 (by omega) 3 0 rfl (fun j hj => absurd hj (Nat.not_lt_zero _))
  · have h12 : c = tp := by have := mt (nI_ltI (a := c) (b := tp) (by omega) (by omega)).mpr h_12; omega
    refine r_iconst (μ := mX5_readKey) (pc := 15) (v := 0) dX5_readKey_15 ic_0 ?_
    exact r_iret (μ := mX5_readKey) (pc := 16) dX5_readKey_16 rfl rfl (PX_i ⟨fun a x => upI_ne x, fun j x y z => up_ne x, fun _ => ⟨rfl, by rw [up_eq, tk1_b hct]⟩, fun z => absurd (ky_end hct h12) z⟩)

theorem dg_lt {tp : Nat} {T : Rw} {c : Nat} (h : dgB tp T c = true) : ltB tp T c = false := by
  unfold dgB at h
  unfold ltB
  simp only [Bool.and_eq_true, decide_eq_true_eq] at h
  have h2 := of_decide_eq_true h.2
  rw [show inB (T c) 97 122 = false from decide_eq_false (by omega), Bool.and_false]
theorem lp_num {d : Nat} {sh : List Sh} {mi : MI} {mr : MR} (hF : SHC sh) (hB : CB mr) {Q : QT} {b e : Nat} (he : e ≤ 96) (h4 : e - b ≤ 4) (hbe : b ≤ e) (hq : ∀ x3 : Value, WP (d + 3) mX5_readNumber 61 [.ref 48, .int (nI e), .int (numT (mi 49) b (e - b)), x3] [] sh mi mr 0 0 Q) : ∀ (k i : Nat), i + k = e → b ≤ i → WP (d + 3) mX5_readNumber 35 [.ref 48, .int (nI e), .int (numT (mi 49) b (i - b)), .int (nI i)] [] sh mi mr 0 0 Q := by
  intro k
  induction k with
  | zero =>
    intro i hk hb
    obtain rfl : i = e := by omega
    refine r_iload_n (μ := mX5_readNumber) (pc := 35) dX5_readNumber_35 rfl rfl ?_
    refine r_iload_n (μ := mX5_readNumber) (pc := 36) dX5_readNumber_36 rfl rfl ?_
    refine r_icmp_ge (μ := mX5_readNumber) (pc := 37) (tgt := 61) dX5_readNumber_37 (by decide) (fun h_37 => ?_) (fun h_37 => absurd (nI_le (Nat.le_refl _) (by omega)) h_37)
    exact hq _
  | succ k ih =>
    intro i hk hb
    have hi : i < e := by omega
    have e1 : numT (mi 49) b (i + 1 - b) = numT (mi 49) b (i - b) * 10 + mi 49 i - 48 := by
      rw [show i + 1 - b = (i - b) + 1 by omega]
      show (if i - b < 4 then 10 * numT (mi 49) b (i - b) + mi 49 (b + (i - b)) - 48 else _) = _
      rw [if_pos (by omega), show b + (i - b) = i by omega, Int32.mul_comm]
    refine r_iload_n (μ := mX5_readNumber) (pc := 35) dX5_readNumber_35 rfl rfl ?_
    refine r_iload_n (μ := mX5_readNumber) (pc := 36) dX5_readNumber_36 rfl rfl ?_
    refine r_icmp_ge (μ := mX5_readNumber) (pc := 37) (tgt := 61) dX5_readNumber_37 (by decide) (fun h_37 => absurd h_37 (nI_ge hi (by omega))) (fun h_37 => ?_)
    refine r_iload_n (μ := mX5_readNumber) (pc := 40) dX5_readNumber_40 rfl rfl ?_
    refine r_bipush (μ := mX5_readNumber) (pc := 41) (v := 10) dX5_readNumber_41 bp_10 ?_
    refine r_imul (μ := mX5_readNumber) (pc := 43) dX5_readNumber_43 ?_
    refine r_aload_n (μ := mX5_readNumber) (pc := 44) dX5_readNumber_44 rfl rfl rfl ?_
    refine r_getR (μ := mX5_readNumber) (pc := 45) dX5_readNumber_45 fpX5_9 rfl (hF _ _ rfl) (by decide) (hB _ _ _ rfl) ?_
    refine r_iload_n (μ := mX5_readNumber) (pc := 48) dX5_readNumber_48 rfl rfl ?_
    refine r_iaload (μ := mX5_readNumber) (pc := 49) (j := i) dX5_readNumber_49 (hF _ _ rfl) rfl (by omega) (by decide) ?_
    refine r_iadd (μ := mX5_readNumber) (pc := 50) dX5_readNumber_50 ?_
    refine r_bipush (μ := mX5_readNumber) (pc := 51) (v := 48) dX5_readNumber_51 bp_48 ?_
    refine r_isub (μ := mX5_readNumber) (pc := 53) dX5_readNumber_53 ?_
    refine s_istore_n (μ := mX5_readNumber) (pc := 54) (L2 := [_, _, _, _]) dX5_readNumber_54 rfl (Nat.le_of_ble_eq_true rfl) (Nat.le_of_ble_eq_true rfl) rfl rfl ?_
    refine s_iinc (μ := mX5_readNumber) (pc := 55) (c := 1) (L2 := [_, _, _, _]) dX5_readNumber_55 rfl ic_1 (Nat.le_of_ble_eq_true rfl) rfl rfl ?_
    refine r_goto (μ := mX5_readNumber) (pc := 58) (tgt := 35) dX5_readNumber_58 (by decide) ?_
    exact WP.L (by rw [e1, show nI (i + 1) = nI i + 1 from nI_succ i]) (ih (i + 1) (by omega) (by omega))

theorem k_num_bad {d : Nat} {sh : List Sh} {mi : MI} {mr : MR} (hF : SHC sh) (hB : CB mr) {m0 : MI} {tp ke : Nat} {key : Int32} {due : Bool} {c : Nat} {sg out : List Int32} {ops : Nat} (h : RdS m0 mi tp ke key due c sg out ops) {kq : Nat} (h96 : tp ≤ 96) (hc : c < tp) (hd : dgB tp (mi 49) c = true) {e : Nat} (he : rnE (dgB tp (mi 49)) c = e) (hb : c = ke ∨ 4 < e - c) (hke : ke ≤ 96) : CP (d + 3) mX5_readNumber [.ref 48] sh mi mr 0 0 (PX sh mr (fun r mi2 => r = 0 ∧ mi2 = mi)) := by
  have hR := h
  obtain ⟨hA, ⟨e1, e2, e3, e4, e5, e6⟩, ⟨e8, e9, e11, e12, e13⟩, hL, hS⟩ := h
  have hce := rnE_s dgB_lt h96 hd
  rw [he] at hce
  refine CP.of (L := [_, _, _, _]) (by decide) rfl rfl (Nat.le_of_ble_eq_true rfl) ?_
  refine r_aload_n (μ := mX5_readNumber) (pc := 0) dX5_readNumber_0 rfl rfl rfl ?_
  refine vP0 (μ := mX5_readNumber) (pc := 1) (c0 := 5) (q0 := (RX5, TX5, 14)) (μ2 := mX5_wordEnd) dX5_readNumber_1 (hF _ _ rfl) rfl lkX5_106 imX5_wordEnd seX5_X5_wordEnd_X5_wordEnd mwX5_wordEnd (Nat.le_of_ble_eq_true rfl) (k_wordEnd (d := d + 1) (tp := tp) (c := c) hF hB e3 h96 e2 hc) ?_
  rw [show wdE tp (mi 49) c = e from by unfold wdE; rw [dg_lt hd]; exact he]
  refine s_istore_n (μ := mX5_readNumber) (pc := 4) (L2 := [_, _, _, _]) dX5_readNumber_4 rfl (Nat.le_of_ble_eq_true rfl) (Nat.le_of_ble_eq_true rfl) rfl rfl ?_
  refine r_aload_n (μ := mX5_readNumber) (pc := 5) dX5_readNumber_5 rfl rfl rfl ?_
  refine r_getI (μ := mX5_readNumber) (pc := 6) dX5_readNumber_6 fpX5_19 rfl (hF _ _ rfl) (by decide) ?_
  rw [e2]
  refine r_aload_n (μ := mX5_readNumber) (pc := 9) dX5_readNumber_9 rfl rfl rfl ?_
  refine r_getI (μ := mX5_readNumber) (pc := 10) dX5_readNumber_10 fpX5_28 rfl (hF _ _ rfl) (by decide) ?_
  rw [e5]
  refine r_icmp_eq (μ := mX5_readNumber) (pc := 13) (tgt := 26) dX5_readNumber_13 (by decide) (fun h_13 => ?_) (fun h_13 => ?_)
  · refine r_iconst (μ := mX5_readNumber) (pc := 26) (v := 0) dX5_readNumber_26 ic_0 ?_
    exact r_iret (μ := mX5_readNumber) (pc := 27) dX5_readNumber_27 rfl rfl (PX_i ⟨rfl, rfl⟩)
  · have h13 : ¬ c = ke := fun z => h_13 (by rw [z])
    refine r_iload_n (μ := mX5_readNumber) (pc := 16) dX5_readNumber_16 rfl rfl ?_
    refine r_aload_n (μ := mX5_readNumber) (pc := 17) dX5_readNumber_17 rfl rfl rfl ?_
    refine r_getI (μ := mX5_readNumber) (pc := 18) dX5_readNumber_18 fpX5_19 rfl (hF _ _ rfl) (by decide) ?_
    rw [e2]
    refine r_isub (μ := mX5_readNumber) (pc := 21) dX5_readNumber_21 ?_
    rw [pk_sub (by omega)]
    refine r_iconst (μ := mX5_readNumber) (pc := 22) (v := 4) dX5_readNumber_22 ic_4 ?_
    refine r_icmp_le (μ := mX5_readNumber) (pc := 23) (tgt := 28) dX5_readNumber_23 (by decide) (fun h_23 => absurd h_23 (nI_ge (a := 4) (by omega) (by omega))) (fun h_23 => ?_)
    refine r_iconst (μ := mX5_readNumber) (pc := 26) (v := 0) dX5_readNumber_26 ic_0 ?_
    exact r_iret (μ := mX5_readNumber) (pc := 27) dX5_readNumber_27 rfl rfl (PX_i ⟨rfl, rfl⟩)

theorem k_num {d : Nat} {sh : List Sh} {mi : MI} {mr : MR} (hF : SHC sh) (hB : CB mr) {m0 : MI} {tp ke : Nat} {key : Int32} {due : Bool} {c : Nat} {sg out : List Int32} {ops : Nat} (h : RdS m0 mi tp ke key due c sg out ops) (h96 : tp ≤ 96) (hc : c < tp) (hd : dgB tp (mi 49) c = true) {e : Nat} (he : rnE (dgB tp (mi 49)) c = e) (hb : ¬ c = ke) (h4 : e - c ≤ 4) (hke : ke ≤ 96) (hlen : sg.length + out.length ≤ 95) : CP (d + 3) mX5_readNumber [.ref 48] sh mi mr 0 0 (PX sh mr (fun r mi2 => r = 1 ∧ RdS m0 mi2 tp ke key false e (clS sg (out ++ [numT (mi 49) c (e - c)])).1 (clS sg (out ++ [numT (mi 49) c (e - c)])).2 (ops + 1))) := by
  have hR := h
  obtain ⟨hA, ⟨e1, e2, e3, e4, e5, e6⟩, ⟨e8, e9, e11, e12, e13⟩, hL, hS⟩ := h
  have hce := rnE_s dgB_lt h96 hd
  rw [he] at hce
  refine CP.of (L := [_, _, _, _]) (by decide) rfl rfl (Nat.le_of_ble_eq_true rfl) ?_
  refine r_aload_n (μ := mX5_readNumber) (pc := 0) dX5_readNumber_0 rfl rfl rfl ?_
  refine vP0 (μ := mX5_readNumber) (pc := 1) (c0 := 5) (q0 := (RX5, TX5, 14)) (μ2 := mX5_wordEnd) dX5_readNumber_1 (hF _ _ rfl) rfl lkX5_106 imX5_wordEnd seX5_X5_wordEnd_X5_wordEnd mwX5_wordEnd (Nat.le_of_ble_eq_true rfl) (k_wordEnd (d := d + 1) (tp := tp) (c := c) hF hB e3 h96 e2 hc) ?_
  rw [show wdE tp (mi 49) c = e from by unfold wdE; rw [dg_lt hd]; exact he]
  refine s_istore_n (μ := mX5_readNumber) (pc := 4) (L2 := [_, _, _, _]) dX5_readNumber_4 rfl (Nat.le_of_ble_eq_true rfl) (Nat.le_of_ble_eq_true rfl) rfl rfl ?_
  refine r_aload_n (μ := mX5_readNumber) (pc := 5) dX5_readNumber_5 rfl rfl rfl ?_
  refine r_getI (μ := mX5_readNumber) (pc := 6) dX5_readNumber_6 fpX5_19 rfl (hF _ _ rfl) (by decide) ?_
  rw [e2]
  refine r_aload_n (μ := mX5_readNumber) (pc := 9) dX5_readNumber_9 rfl rfl rfl ?_
  refine r_getI (μ := mX5_readNumber) (pc := 10) dX5_readNumber_10 fpX5_28 rfl (hF _ _ rfl) (by decide) ?_
  rw [e5]
  refine r_icmp_eq (μ := mX5_readNumber) (pc := 13) (tgt := 26) dX5_readNumber_13 (by decide) (fun h_13 => absurd h_13 (fun z => hb ((nI_eq (by omega) (by omega)).mp z))) (fun h_13 => ?_)
  refine r_iload_n (μ := mX5_readNumber) (pc := 16) dX5_readNumber_16 rfl rfl ?_
  refine r_aload_n (μ := mX5_readNumber) (pc := 17) dX5_readNumber_17 rfl rfl rfl ?_
  refine r_getI (μ := mX5_readNumber) (pc := 18) dX5_readNumber_18 fpX5_19 rfl (hF _ _ rfl) (by decide) ?_
  rw [e2]
  refine r_isub (μ := mX5_readNumber) (pc := 21) dX5_readNumber_21 ?_
  rw [pk_sub (by omega)]
  refine r_iconst (μ := mX5_readNumber) (pc := 22) (v := 4) dX5_readNumber_22 ic_4 ?_
  refine r_icmp_le (μ := mX5_readNumber) (pc := 23) (tgt := 28) dX5_readNumber_23 (by decide) (fun h_23 => ?_) (fun h_23 => absurd (nI_le (b := 4) (by omega) (by decide)) h_23)
  refine r_iconst (μ := mX5_readNumber) (pc := 28) (v := 0) dX5_readNumber_28 ic_0 ?_
  refine s_istore_n (μ := mX5_readNumber) (pc := 29) (L2 := [_, _, _, _]) dX5_readNumber_29 rfl (Nat.le_of_ble_eq_true rfl) (Nat.le_of_ble_eq_true rfl) rfl rfl ?_
  refine r_aload_n (μ := mX5_readNumber) (pc := 30) dX5_readNumber_30 rfl rfl rfl ?_
  refine r_getI (μ := mX5_readNumber) (pc := 31) dX5_readNumber_31 fpX5_19 rfl (hF _ _ rfl) (by decide) ?_
  rw [e2]
  refine s_istore_n (μ := mX5_readNumber) (pc := 34) (L2 := [_, _, _, _]) dX5_readNumber_34 rfl (Nat.le_of_ble_eq_true rfl) (Nat.le_of_ble_eq_true rfl) rfl rfl ?_
  have hl := lp_num (d := d) (b := c) (e := e) (Q := PX sh mr (fun r mi2 => r = 1 ∧ RdS m0 mi2 tp ke key false e (clS sg (out ++ [numT (mi 49) c (e - c)])).1 (clS sg (out ++ [numT (mi 49) c (e - c)])).2 (ops + 1))) (mi := mi) hF hB (by omega) h4 (by omega) (fun x3 => ?_) (e - c) c (by omega) (Nat.le_refl _)
  · rw [Nat.sub_self] at hl
    exact hl
  · refine r_aload_n (μ := mX5_readNumber) (pc := 61) dX5_readNumber_61 rfl rfl rfl ?_
    refine r_iload_n (μ := mX5_readNumber) (pc := 62) dX5_readNumber_62 rfl rfl ?_
    refine r_putI (μ := mX5_readNumber) (pc := 63) dX5_readNumber_63 fwX5_19 (hF _ _ rfl) (by decide) rfl ?_
    refine r_aload_n (μ := mX5_readNumber) (pc := 66) dX5_readNumber_66 rfl rfl rfl ?_
    refine r_iload_n (μ := mX5_readNumber) (pc := 67) dX5_readNumber_67 rfl rfl ?_
    refine vV1 (μ := mX5_readNumber) (pc := 68) (c0 := 5) (q0 := (RX5, TX5, 14)) (μ2 := mX5_putOperand) dX5_readNumber_68 (hF _ _ rfl) rfl lkX5_136 imX5_putOperand seX5_X5_putOperand_X5_putOperand mwX5_putOperand (Nat.le_of_ble_eq_true rfl) (k_putOperand (d := d) hF hB (hR.at_ e) hlen) (fun mi_68 h_68 => ?_)
    refine r_iconst (μ := mX5_readNumber) (pc := 71) (v := 1) dX5_readNumber_71 ic_1 ?_
    exact r_iret (μ := mX5_readNumber) (pc := 72) dX5_readNumber_72 rfl rfl (PX_i ⟨rfl, h_68⟩)

theorem k_name_long {d : Nat} {sh : List Sh} {mi : MI} {mr : MR} (hF : SHC sh) (hB : CB mr) {m0 : MI} {tp ke : Nat} {key : Int32} {due : Bool} {c : Nat} {sg out : List Int32} {ops : Nat} (h : RdS m0 mi tp ke key due c sg out ops) (h96 : tp ≤ 96) (hc : c < tp) (hd : ltB tp (mi 49) c = true) {e : Nat} (he : rnE (ltB tp (mi 49)) c = e) (hb : ¬ e - c = 1) : CP (d + 5) mX5_readName [.ref 48] sh mi mr 0 0 (PX sh mr (fun r mi2 => r = 0 ∧ mi2 = mi)) := by
  have hR := h
  obtain ⟨hA, ⟨e1, e2, e3, e4, e5, e6⟩, ⟨e8, e9, e11, e12, e13⟩, hL, hS⟩ := h
  have hce := rnE_s ltB_lt h96 hd
  rw [he] at hce
  refine CP.of (L := [_, _]) (by decide) rfl rfl (Nat.le_of_ble_eq_true rfl) ?_
  refine r_aload_n (μ := mX5_readName) (pc := 0) dX5_readName_0 rfl rfl rfl ?_
  refine vP0 (μ := mX5_readName) (pc := 1) (c0 := 5) (q0 := (RX5, TX5, 14)) (μ2 := mX5_wordEnd) dX5_readName_1 (hF _ _ rfl) rfl lkX5_106 imX5_wordEnd seX5_X5_wordEnd_X5_wordEnd mwX5_wordEnd (Nat.le_of_ble_eq_true rfl) (k_wordEnd (d := d + 3) (tp := tp) (c := c) hF hB e3 h96 e2 hc) ?_
  rw [show wdE tp (mi 49) c = e from by unfold wdE; rw [hd]; exact he]
  refine r_aload_n (μ := mX5_readName) (pc := 4) dX5_readName_4 rfl rfl rfl ?_
  refine r_getI (μ := mX5_readName) (pc := 5) dX5_readName_5 fpX5_19 rfl (hF _ _ rfl) (by decide) ?_
  rw [e2]
  refine r_isub (μ := mX5_readName) (pc := 8) dX5_readName_8 ?_
  rw [pk_sub (by omega)]
  refine r_iconst (μ := mX5_readName) (pc := 9) (v := 1) dX5_readName_9 ic_1 ?_
  refine r_icmp_eq (μ := mX5_readName) (pc := 10) (tgt := 15) dX5_readName_10 (by decide) (fun h_10 => absurd h_10 (fun z => hb ((nI_eq (b := 1) (by omega) (by decide)).mp z))) (fun h_10 => ?_)
  refine r_iconst (μ := mX5_readName) (pc := 13) (v := 0) dX5_readName_13 ic_0 ?_
  exact r_iret (μ := mX5_readName) (pc := 14) dX5_readName_14 rfl rfl (PX_i ⟨rfl, rfl⟩)

theorem lt_in {tp : Nat} {T : Rw} {c : Nat} (h : ltB tp T c = true) : inB (T c) 97 122 = true := by
  unfold ltB at h
  simp only [Bool.and_eq_true] at h
  exact h.2
theorem fIx_n {c : Int32} : ∀ kt, kt < 3 → fIx (3 + kt) c (sLen (3 + kt)) 0 = if nmB (nI kt) c = true then nI (nmP (nI kt) c) else -1
  | 0, _ => by
    show (if (104 : Int32) = c then nI 0 else if (112 : Int32) = c then nI 1 else -1) = if (decide (c = 104) || decide (c = 112)) = true then _ else _
    by_cases h1 : c = 104
    · subst h1; rfl
    · by_cases h2 : c = 112
      · subst h2; rfl
      · rw [if_neg (fun z => h1 z.symm), if_neg (fun z => h2 z.symm), decide_eq_false h1, decide_eq_false h2]; rfl
  | 1, _ => by
    show (if (115 : Int32) = c then nI 0 else if (108 : Int32) = c then nI 1 else if (100 : Int32) = c then nI 2 else -1) = if (decide (c = 115) || decide (c = 108) || decide (c = 100)) = true then _ else _
    by_cases h1 : c = 115
    · subst h1; rfl
    · by_cases h2 : c = 108
      · subst h2; rfl
      · by_cases h3 : c = 100
        · subst h3; rfl
        · rw [if_neg (fun z => h1 z.symm), if_neg (fun z => h2 z.symm), if_neg (fun z => h3 z.symm), decide_eq_false h1, decide_eq_false h2, decide_eq_false h3]; rfl
  | 2, _ => by
    show (if (109 : Int32) = c then nI 0 else if (110 : Int32) = c then nI 1 else -1) = if (decide (c = 109) || decide (c = 110)) = true then _ else _
    by_cases h1 : c = 109
    · subst h1; rfl
    · by_cases h2 : c = 110
      · subst h2; rfl
      · rw [if_neg (fun z => h1 z.symm), if_neg (fun z => h2 z.symm), decide_eq_false h1, decide_eq_false h2]; rfl
  | n + 3, h => by omega
theorem nmP_2 (k c : Int32) : nmP k c ≤ 2 := by
  unfold nmP
  split
  · omega
  · split <;> omega

theorem k_name_no {d : Nat} {sh : List Sh} {mi : MI} {mr : MR} (hF : SHC sh) (hB : CB mr) {m0 : MI} {tp ke : Nat} {key : Int32} {due : Bool} {c : Nat} {sg out : List Int32} {ops : Nat} (h : RdS m0 mi tp ke key due c sg out ops) (h96 : tp ≤ 96) (hc : c < tp) (hd : ltB tp (mi 49) c = true) {e : Nat} (he : rnE (ltB tp (mi 49)) c = e) {kt : Nat} (hkt : kt < 3) (hk : key = nI kt) (hb : e - c = 1) (hn : ¬ nmB key (mi 49 c) = true) : CP (d + 5) mX5_readName [.ref 48] sh mi mr 0 0 (PX sh mr (fun r mi2 => r = 0 ∧ mi2 = mi)) := by
  have hR := h
  obtain ⟨hA, ⟨e1, e2, e3, e4, e5, e6⟩, ⟨e8, e9, e11, e12, e13⟩, hL, hS⟩ := h
  have hce := rnE_s ltB_lt h96 hd
  rw [he] at hce
  refine CP.of (L := [_, _]) (by decide) rfl rfl (Nat.le_of_ble_eq_true rfl) ?_
  refine r_aload_n (μ := mX5_readName) (pc := 0) dX5_readName_0 rfl rfl rfl ?_
  refine vP0 (μ := mX5_readName) (pc := 1) (c0 := 5) (q0 := (RX5, TX5, 14)) (μ2 := mX5_wordEnd) dX5_readName_1 (hF _ _ rfl) rfl lkX5_106 imX5_wordEnd seX5_X5_wordEnd_X5_wordEnd mwX5_wordEnd (Nat.le_of_ble_eq_true rfl) (k_wordEnd (d := d + 3) (tp := tp) (c := c) hF hB e3 h96 e2 hc) ?_
  rw [show wdE tp (mi 49) c = e from by unfold wdE; rw [hd]; exact he]
  refine r_aload_n (μ := mX5_readName) (pc := 4) dX5_readName_4 rfl rfl rfl ?_
  refine r_getI (μ := mX5_readName) (pc := 5) dX5_readName_5 fpX5_19 rfl (hF _ _ rfl) (by decide) ?_
  rw [e2]
  refine r_isub (μ := mX5_readName) (pc := 8) dX5_readName_8 ?_
  rw [pk_sub (by omega)]
  refine r_iconst (μ := mX5_readName) (pc := 9) (v := 1) dX5_readName_9 ic_1 ?_
  refine r_icmp_eq (μ := mX5_readName) (pc := 10) (tgt := 15) dX5_readName_10 (by decide) (fun h_10 => ?_) (fun h_10 => absurd (by rw [hb]; rfl) h_10)
  refine r_aload_n (μ := mX5_readName) (pc := 15) dX5_readName_15 rfl rfl rfl ?_
  refine r_getI (μ := mX5_readName) (pc := 16) dX5_readName_16 fpX5_25 rfl (hF _ _ rfl) (by decide) ?_
  rw [e4, hk]
  refine sR1 (μ := mX5_readName) (pc := 19) (μ2 := mX5_namesOf) dX5_readName_19 lkX5_139 stX5_namesOf mwX5_namesOf (Nat.le_of_ble_eq_true rfl) (k_namesOf hkt) ?_
  refine r_aload_n (μ := mX5_readName) (pc := 22) dX5_readName_22 rfl rfl rfl ?_
  refine r_getR (μ := mX5_readName) (pc := 23) dX5_readName_23 fpX5_9 rfl (hF _ _ rfl) (by decide) (hB _ _ _ rfl) ?_
  refine r_aload_n (μ := mX5_readName) (pc := 26) dX5_readName_26 rfl rfl rfl ?_
  refine r_getI (μ := mX5_readName) (pc := 27) dX5_readName_27 fpX5_19 rfl (hF _ _ rfl) (by decide) ?_
  rw [e2]
  refine r_iaload (μ := mX5_readName) (pc := 30) (j := c) dX5_readName_30 (hF _ _ rfl) rfl (by omega) (by decide) ?_
  refine r_i2c (μ := mX5_readName) (pc := 31) dX5_readName_31 ?_
  rw [(c_b (lt_in hd)).2.1]
  refine vS1 (μ := mX5_readName) (pc := 32) (μ2 := mJ0_indexOf_0f7a4) (i := 3 + kt) dX5_readName_32 (by omega) lkX5_142 imJ0_indexOf_0f7a4 seJ0_J0_indexOf_0f7a4_J0_indexOf_0f7a4 mwJ0_indexOf_0f7a4 (Nat.le_of_ble_eq_true rfl) (k_ix (d := d + 1) (by omega) (lt_in hd)) ?_
  rw [fIx_n kt hkt, if_neg (by rw [← hk]; exact hn)]
  refine s_istore_n (μ := mX5_readName) (pc := 35) (L2 := [_, _]) dX5_readName_35 rfl (Nat.le_of_ble_eq_true rfl) (Nat.le_of_ble_eq_true rfl) rfl rfl ?_
  refine r_iload_n (μ := mX5_readName) (pc := 36) dX5_readName_36 rfl rfl ?_
  refine r_if_ge (μ := mX5_readName) (pc := 37) (tgt := 42) dX5_readName_37 (by decide) (fun h_37 => absurd h_37 (by decide)) (fun h_37 => ?_)
  refine r_iconst (μ := mX5_readName) (pc := 40) (v := 0) dX5_readName_40 ic_0 ?_
  exact r_iret (μ := mX5_readName) (pc := 41) dX5_readName_41 rfl rfl (PX_i ⟨rfl, rfl⟩)

theorem k_name {d : Nat} {sh : List Sh} {mi : MI} {mr : MR} (hF : SHC sh) (hB : CB mr) {m0 : MI} {tp ke : Nat} {key : Int32} {due : Bool} {c : Nat} {sg out : List Int32} {ops : Nat} (h : RdS m0 mi tp ke key due c sg out ops) (h96 : tp ≤ 96) (hc : c < tp) (hd : ltB tp (mi 49) c = true) {e : Nat} (he : rnE (ltB tp (mi 49)) c = e) {kt : Nat} (hkt : kt < 3) (hk : key = nI kt) (hb : e - c = 1) (hn : nmB key (mi 49 c) = true) (hlen : sg.length + out.length ≤ 95) : CP (d + 5) mX5_readName [.ref 48] sh mi mr 0 0 (PX sh mr (fun r mi2 => r = 1 ∧ RdS m0 mi2 tp ke key false (c + 1) (clS sg (out ++ [nI (10000 + nmP key (mi 49 c))])).1 (clS sg (out ++ [nI (10000 + nmP key (mi 49 c))])).2 (ops + 1))) := by
  have hR := h
  obtain ⟨hA, ⟨e1, e2, e3, e4, e5, e6⟩, ⟨e8, e9, e11, e12, e13⟩, hL, hS⟩ := h
  have hce := rnE_s ltB_lt h96 hd
  rw [he] at hce
  have hn2 := nmP_2 key (mi 49 c)
  refine CP.of (L := [_, _]) (by decide) rfl rfl (Nat.le_of_ble_eq_true rfl) ?_
  refine r_aload_n (μ := mX5_readName) (pc := 0) dX5_readName_0 rfl rfl rfl ?_
  refine vP0 (μ := mX5_readName) (pc := 1) (c0 := 5) (q0 := (RX5, TX5, 14)) (μ2 := mX5_wordEnd) dX5_readName_1 (hF _ _ rfl) rfl lkX5_106 imX5_wordEnd seX5_X5_wordEnd_X5_wordEnd mwX5_wordEnd (Nat.le_of_ble_eq_true rfl) (k_wordEnd (d := d + 3) (tp := tp) (c := c) hF hB e3 h96 e2 hc) ?_
  rw [show wdE tp (mi 49) c = e from by unfold wdE; rw [hd]; exact he]
  refine r_aload_n (μ := mX5_readName) (pc := 4) dX5_readName_4 rfl rfl rfl ?_
  refine r_getI (μ := mX5_readName) (pc := 5) dX5_readName_5 fpX5_19 rfl (hF _ _ rfl) (by decide) ?_
  rw [e2]
  refine r_isub (μ := mX5_readName) (pc := 8) dX5_readName_8 ?_
  rw [pk_sub (by omega)]
  refine r_iconst (μ := mX5_readName) (pc := 9) (v := 1) dX5_readName_9 ic_1 ?_
  refine r_icmp_eq (μ := mX5_readName) (pc := 10) (tgt := 15) dX5_readName_10 (by decide) (fun h_10 => ?_) (fun h_10 => absurd (by rw [hb]; rfl) h_10)
  refine r_aload_n (μ := mX5_readName) (pc := 15) dX5_readName_15 rfl rfl rfl ?_
  refine r_getI (μ := mX5_readName) (pc := 16) dX5_readName_16 fpX5_25 rfl (hF _ _ rfl) (by decide) ?_
  rw [e4, hk]
  refine sR1 (μ := mX5_readName) (pc := 19) (μ2 := mX5_namesOf) dX5_readName_19 lkX5_139 stX5_namesOf mwX5_namesOf (Nat.le_of_ble_eq_true rfl) (k_namesOf hkt) ?_
  refine r_aload_n (μ := mX5_readName) (pc := 22) dX5_readName_22 rfl rfl rfl ?_
  refine r_getR (μ := mX5_readName) (pc := 23) dX5_readName_23 fpX5_9 rfl (hF _ _ rfl) (by decide) (hB _ _ _ rfl) ?_
  refine r_aload_n (μ := mX5_readName) (pc := 26) dX5_readName_26 rfl rfl rfl ?_
  refine r_getI (μ := mX5_readName) (pc := 27) dX5_readName_27 fpX5_19 rfl (hF _ _ rfl) (by decide) ?_
  rw [e2]
  refine r_iaload (μ := mX5_readName) (pc := 30) (j := c) dX5_readName_30 (hF _ _ rfl) rfl (by omega) (by decide) ?_
  refine r_i2c (μ := mX5_readName) (pc := 31) dX5_readName_31 ?_
  rw [(c_b (lt_in hd)).2.1]
  refine vS1 (μ := mX5_readName) (pc := 32) (μ2 := mJ0_indexOf_0f7a4) (i := 3 + kt) dX5_readName_32 (by omega) lkX5_142 imJ0_indexOf_0f7a4 seJ0_J0_indexOf_0f7a4_J0_indexOf_0f7a4 mwJ0_indexOf_0f7a4 (Nat.le_of_ble_eq_true rfl) (k_ix (d := d + 1) (by omega) (lt_in hd)) ?_
  rw [fIx_n kt hkt, if_pos (by rw [← hk]; exact hn), ← hk]
  refine s_istore_n (μ := mX5_readName) (pc := 35) (L2 := [_, _]) dX5_readName_35 rfl (Nat.le_of_ble_eq_true rfl) (Nat.le_of_ble_eq_true rfl) rfl rfl ?_
  refine r_iload_n (μ := mX5_readName) (pc := 36) dX5_readName_36 rfl rfl ?_
  refine r_if_ge (μ := mX5_readName) (pc := 37) (tgt := 42) dX5_readName_37 (by decide) (fun h_37 => ?_) (fun h_37 => absurd (nI_pos' (by omega)) h_37)
  refine r_aload_n (μ := mX5_readName) (pc := 42) dX5_readName_42 rfl rfl rfl ?_
  refine r_dup (μ := mX5_readName) (pc := 43) dX5_readName_43 rfl ?_
  refine r_getI (μ := mX5_readName) (pc := 44) dX5_readName_44 fpX5_19 rfl (hF _ _ rfl) (by decide) ?_
  rw [e2]
  refine r_iconst (μ := mX5_readName) (pc := 47) (v := 1) dX5_readName_47 ic_1 ?_
  refine r_iadd (μ := mX5_readName) (pc := 48) dX5_readName_48 ?_
  rw [show nI c + 1 = nI (c + 1) from (nI_succ c).symm]
  refine r_putI (μ := mX5_readName) (pc := 49) dX5_readName_49 fwX5_19 (hF _ _ rfl) (by decide) rfl ?_
  refine r_aload_n (μ := mX5_readName) (pc := 52) dX5_readName_52 rfl rfl rfl ?_
  refine r_sipush (μ := mX5_readName) (pc := 53) (v := 10000) dX5_readName_53 sp_10000 ?_
  refine r_iload_n (μ := mX5_readName) (pc := 56) dX5_readName_56 rfl rfl ?_
  refine r_iadd (μ := mX5_readName) (pc := 57) dX5_readName_57 ?_
  rw [show (10000 : Int32) + nI (nmP key (mi 49 c)) = nI (10000 + nmP key (mi 49 c)) from nI_add 10000 _]
  refine vV1 (μ := mX5_readName) (pc := 58) (c0 := 5) (q0 := (RX5, TX5, 14)) (μ2 := mX5_putOperand) dX5_readName_58 (hF _ _ rfl) rfl lkX5_136 imX5_putOperand seX5_X5_putOperand_X5_putOperand mwX5_putOperand (Nat.le_of_ble_eq_true rfl) (k_putOperand (d := d + 2) hF hB (hR.at_ (c + 1)) hlen) (fun mi_58 h_58 => ?_)
  refine r_iconst (μ := mX5_readName) (pc := 61) (v := 1) dX5_readName_61 ic_1 ?_
  exact r_iret (μ := mX5_readName) (pc := 62) dX5_readName_62 rfl rfl (PX_i ⟨rfl, h_58⟩)

