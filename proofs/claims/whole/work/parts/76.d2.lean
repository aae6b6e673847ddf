def WF (mi mi2 : MI) : Prop := ∀ x, x ≠ 19 → x ≠ 45 → x ≠ 46 → x ≠ 47 → mi2 x = mi x
theorem WF.tr {a b c : MI} (h : WF a b) (h2 : WF b c) : WF a c := fun x h3 h4 h5 h6 => (h2 x h3 h4 h5 h6).trans (h x h3 h4 h5 h6)
theorem SP.w19 {a b : MI} (h : SP 19 a b) : WF a b := fun x h3 _ _ _ => h x h3
theorem SP.w47 {a b : MI} (h : SP 47 a b) : WF a b := fun x _ _ _ h6 => h x h6
/-- the answer, with what ways leave behind -/
def WY (sh : List Sh) (mi : MI) (mr : MR) (R : Int32) : QT := PY (fun r sh2 mi2 mr2 => r = R ∧ sh2 = sh ∧ mr2 = upR mr 44 0 (some 8) ∧ WF mi mi2)
theorem WY_i {sh : List Sh} {mi mi2 : MI} {mr : MR} {R r : Int32} (h : r = R) (h2 : WF mi mi2) : WY sh mi mr R (some (.int r)) sh mi2 (upR mr 44 0 (some 8)) := ⟨r, rfl, h, rfl, rfl, h2⟩
theorem lk_B {mr : MR} {b : Nat} (hB : CB mr) : CB (upR mr 44 0 (some b)) := fun a k c h => by
  by_cases e : a = 44
  · subst e
    by_cases e2 : k = 0
    · subst e2; cases h
    · rw [upR_self]; show va_up (mr 44) 0 (some b) k = some c; unfold va_up; rw [if_neg e2]; exact hB 44 k c h
  · rw [upR_ne e]; exact hB a k c h
theorem lk_w {mr : MR} {b : Nat} : upR mr 44 0 (some b) 44 0 = some b := by rw [upR_self]; rfl
theorem lk_R {sh : List Sh} {mi mi2 : MI} {mr : MR} {s : Rw} {n m p q : Nat} (hR : RT sh mi mr 8 s n m p q) (hfr : ∀ x, x ≠ 45 → x ≠ 46 → x ≠ 8 + 11 → mi2 x = mi x) : RT sh mi2 (upR mr 44 0 (some 8)) 8 s n m p q := (hR.fr (fun x h1 h2 => hfr x (by omega) (by omega) (by omega)) (fun x h1 => hfr x (by omega) (by omega) (by omega))).mr (fun x hx => upR_ne (by omega))
theorem lk_F {mi mi2 : MI} (hfr : ∀ x, x ≠ 45 → x ≠ 46 → x ≠ 8 + 11 → mi2 x = mi x) : WF mi mi2 := fun x h1 h2 h3 _ => hfr x h2 h3 h1
theorem WS.w {mi mi2 : MI} {s : Rw} {n m q : Nat} (h : WS mi 8 s n m q) (h2 : SP 47 mi mi2) : WS mi2 8 s n m q := h.fr (fun x hx => h2 x (by omega))
theorem RT.w {sh : List Sh} {mi mi2 : MI} {mr : MR} {s : Rw} {n m p q : Nat} (h : RT sh mi mr 8 s n m p q) (h2 : WF mi mi2) : RT sh mi2 mr 8 s n m p q := h.fr (fun x h1 h3 => h2 x (by omega) (by omega) (by omega) (by omega)) (fun x h1 => h2 x (by omega) (by omega) (by omega) (by omega))
theorem ngts_ok {s : Rw} {n m p q : Nat} (h : Inv s n m p q) : ∀ k, Inv (ngtsR s q n m k).1 n m p q ∧ RelS s (ngtsR s q n m k).1
  | 0 => ⟨h, RelS.rf s⟩
  | k + 1 => by
    obtain ⟨h1, h2⟩ := ngts_ok h k
    exact ⟨(nightR_ok h1).1, h2.tr (nightR_ok h1).2⟩

def kdl1 (mi : MI) (n : Nat) : MI := upI (upI (upI (upI (upI mi 8 15 (nz (mi 8 15))) 8 15 (nz (nz (mi 8 15)))) 9 n (remS (drw (nz (mi 8 15))) 100)) 10 n (remS (drw (nz (nz (mi 8 15)))) 30)) 8 1 (nI (n + 1))
def kdlK (mi : MI) (n : Nat) : Nat → MI
  | 0 => mi
  | k + 1 => kdl1 (kdlK mi n k) (n + k)
theorem kdlK_n {mi : MI} {n : Nat} (h : mi 8 1 = nI n) : ∀ k, kdlK mi n k 8 1 = nI (n + k)
  | 0 => h
  | k + 1 => by
    show kdl1 (kdlK mi n k) (n + k) 8 1 = _
    unfold kdl1
    rw [up_eq]
    rfl

theorem k_deal_bad {d : Nat} {sh : List Sh} {mi : MI} {mr : MR} (hF : SHC sh) (hB : CB mr) {s : Rw} {n m p q : Nat} (hR : RT sh mi mr 8 s n m p q) (hI : Inv s n m p q) {x : Int32} (hb : ¬ inB x 1 10 = true) : CP (d + 1) mX11_deal [.ref 0, .int x] sh mi mr 0 0 (PI (BADc) sh mi mr) := by
  have hn10 := hI.n10; have hm8 := hI.m8; have hp6 := hI.p6; have hq14 := hI.q14
  have hT := TB.of hF hB (Or.inl rfl)
  refine CP.of (L := [_, _, _, _, _, _]) (by decide) rfl rfl (Nat.le_of_ble_eq_true rfl) ?_
  refine r_iload_n (μ := mX11_deal) (pc := 0) dX11_deal_0 rfl rfl ?_
  refine r_iconst (μ := mX11_deal) (pc := 1) (v := 1) dX11_deal_1 ic_1 ?_
  refine r_icmp_lt (μ := mX11_deal) (pc := 2) (tgt := 11) dX11_deal_2 (by decide) (fun h_2 => ?_) (fun h_2 => ?_)
  · refine r_ldc (μ := mX11_deal) (pc := 11) dX11_deal_11 ctX11_97 ?_
    exact r_iret (μ := mX11_deal) (pc := 13) dX11_deal_13 rfl rfl (PI_i rfl)
  · refine r_iload_n (μ := mX11_deal) (pc := 5) dX11_deal_5 rfl rfl ?_
    refine r_bipush (μ := mX11_deal) (pc := 6) (v := 10) dX11_deal_6 bp_10 ?_
    refine r_icmp_le (μ := mX11_deal) (pc := 8) (tgt := 14) dX11_deal_8 (by decide) (fun h_8 => ?_) (fun h_8 => ?_)
    · exact absurd (by have h1 := Int32.le_iff_toInt_le.mp h_8; have h2 := mt Int32.lt_iff_toInt_lt.mpr h_2; have e1 : (1 : Int32).toInt = 1 := rfl; have e2 : (10 : Int32).toInt = 10 := rfl; unfold inB; exact decide_eq_true (by omega)) hb
    · refine r_ldc (μ := mX11_deal) (pc := 11) dX11_deal_11 ctX11_97 ?_
      exact r_iret (μ := mX11_deal) (pc := 13) dX11_deal_13 rfl rfl (PI_i rfl)

theorem lp_kdeal {d : Nat} {sh : List Sh} {mi : MI} {mr : MR} {Q : QT} (hF : SHC sh) (hB : CB mr) {n c : Nat} {x1 : Int32} (hn : mi 8 1 = nI n) (hc : n + c ≤ 10) (hq : Q (some (.int (nI c))) sh (kdlK mi n c) mr) :
    ∀ (k i : Nat), i + k = c → ∀ x4 x5 : Value, catL x4 = true → catL x5 = true → WP (d + 1) mX11_deal 31 [.ref 0, .int x1, .int (nI c), .int (nI i), x4, x5] [] sh (kdlK mi n i) mr 0 0 Q := by
  have hT := TB.of hF hB (Or.inl rfl)
  intro k
  induction k with
  | zero =>
    intro i hk x4 x5 hx4 hx5
    obtain rfl : i = c := by omega
    refine r_iload_n (μ := mX11_deal) (pc := 31) dX11_deal_31 rfl rfl ?_
    refine r_iload_n (μ := mX11_deal) (pc := 32) dX11_deal_32 rfl rfl ?_
    refine r_icmp_ge (μ := mX11_deal) (pc := 33) (tgt := 78) dX11_deal_33 (by decide) (fun h_33 => ?_) (fun h_33 => absurd (nI_le (Nat.le_refl _) (by omega)) h_33)
    refine r_iload_n (μ := mX11_deal) (pc := 78) dX11_deal_78 rfl rfl ?_
    exact r_iret (μ := mX11_deal) (pc := 79) dX11_deal_79 rfl rfl hq
  | succ k ih =>
    intro i hk x4 x5 hx4 hx5
    have hni := kdlK_n hn i
    refine r_iload_n (μ := mX11_deal) (pc := 31) dX11_deal_31 rfl rfl ?_
    refine r_iload_n (μ := mX11_deal) (pc := 32) dX11_deal_32 rfl rfl ?_
    refine r_icmp_ge (μ := mX11_deal) (pc := 33) (tgt := 78) dX11_deal_33 (by decide) (fun h_33 => absurd h_33 (nI_ge (by omega) (by omega))) (fun h_33 => ?_)
    refine r_aload_n (μ := mX11_deal) (pc := 36) dX11_deal_36 rfl rfl rfl ?_
    refine r_getR (μ := mX11_deal) (pc := 37) dX11_deal_37 fpX11_36 rfl (hF _ _ rfl) (by decide) (hB _ _ _ rfl) ?_
    refine vX0 (μ := mX11_deal) (pc := 40) (c0 := 9) (q0 := (RX9, TX9, 20)) (μ2 := mX9_draw) dX11_deal_40 (hF _ _ rfl) rfl lkX11_128 imX9_draw seX9_X9_draw_X9_draw mwX9_draw (Nat.le_of_ble_eq_true rfl) (k_draw hT) (fun r_40 mi_40 h_40 => ?_)
    obtain ⟨rfl, rfl⟩ := h_40
    refine r_bipush (μ := mX11_deal) (pc := 43) (v := 100) dX11_deal_43 bp_100 ?_
    refine r_irem (μ := mX11_deal) (pc := 45) dX11_deal_45 (by decide) ?_
    refine s_istore (μ := mX11_deal) (pc := 46) (L2 := [_, _, _, _, _, _]) dX11_deal_46 (Nat.le_of_ble_eq_true rfl) (Nat.le_of_ble_eq_true rfl) (by simp only [List.all_cons, List.all_nil, catL_i, catL_r, hx4, hx5, Bool.and_self]) rfl ?_
    refine r_aload_n (μ := mX11_deal) (pc := 48) dX11_deal_48 rfl rfl rfl ?_
    refine r_getR (μ := mX11_deal) (pc := 49) dX11_deal_49 fpX11_36 rfl (hF _ _ rfl) (by decide) (hB _ _ _ rfl) ?_
    refine vX0 (μ := mX11_deal) (pc := 52) (c0 := 9) (q0 := (RX9, TX9, 20)) (μ2 := mX9_draw) dX11_deal_52 (hF _ _ rfl) rfl lkX11_128 imX9_draw seX9_X9_draw_X9_draw mwX9_draw (Nat.le_of_ble_eq_true rfl) (k_draw hT) (fun r_52 mi_52 h_52 => ?_)
    obtain ⟨rfl, rfl⟩ := h_52
    rw [up_eq]
    refine r_bipush (μ := mX11_deal) (pc := 55) (v := 30) dX11_deal_55 bp_30 ?_
    refine r_irem (μ := mX11_deal) (pc := 57) dX11_deal_57 (by decide) ?_
    refine s_istore (μ := mX11_deal) (pc := 58) (L2 := [_, _, _, _, _, _]) dX11_deal_58 (Nat.le_of_ble_eq_true rfl) (Nat.le_of_ble_eq_true rfl) (by simp only [List.all_cons, List.all_nil, catL_i, catL_r, hx4, hx5, Bool.and_self]) rfl ?_
    refine r_aload_n (μ := mX11_deal) (pc := 60) dX11_deal_60 rfl rfl rfl ?_
    refine r_getR (μ := mX11_deal) (pc := 61) dX11_deal_61 fpX11_36 rfl (hF _ _ rfl) (by decide) (hB _ _ _ rfl) ?_
    refine r_iload (μ := mX11_deal) (pc := 64) dX11_deal_64 rfl ?_
    refine r_iload (μ := mX11_deal) (pc := 66) dX11_deal_66 rfl ?_
    refine vX2 (μ := mX11_deal) (pc := 68) (c0 := 9) (q0 := (RX9, TX9, 20)) (μ2 := mX9_addLedge) dX11_deal_68 (hF _ _ rfl) rfl lkX11_102 imX9_addLedge seX9_X9_addLedge_X9_addLedge mwX9_addLedge (Nat.le_of_ble_eq_true rfl) (k_addLedge hT (n := n + i) (by rw [up_ne (by decide), up_ne (by decide)]; exact hni) (by omega)) (fun r_68 mi_68 h_68 => ?_)
    obtain ⟨rfl, rfl⟩ := h_68
    refine r_pop (μ := mX11_deal) (pc := 71) dX11_deal_71 rfl ?_
    refine s_iinc (μ := mX11_deal) (pc := 72) (c := 1) (L2 := [_, _, _, _, _, _]) dX11_deal_72 rfl ic_1 (Nat.le_of_ble_eq_true rfl) (by simp only [List.all_cons, List.all_nil, catL_i, catL_r, hx4, hx5, Bool.and_self]) rfl ?_
    refine r_goto (μ := mX11_deal) (pc := 75) (tgt := 31) dX11_deal_75 (by decide) ?_
    exact WP.L (by rw [nI_succ]; rfl) (ih (i + 1) (by omega) (.int (remS (drw (nz (kdlK mi n i 8 15))) 100)) (.int (remS (drw (nz (nz (kdlK mi n i 8 15)))) 30)) rfl rfl)

theorem mn_n {a b : Nat} (ha : a < 1000) (hb : b < 1000) : mnI (nI a) (nI b) = nI (min a b) := by
  unfold mnI
  by_cases h : nI b < nI a
  · rw [if_pos h]
    have := (nI_ltI (by omega) (by omega)).mp h
    rw [Nat.min_eq_right (by omega)]
  · rw [if_neg h]
    have := mt (nI_ltI (a := b) (b := a) (by omega) (by omega)).mpr h
    rw [Nat.min_eq_left (by omega)]

theorem k_deal {d : Nat} {sh : List Sh} {mi : MI} {mr : MR} (hF : SHC sh) (hB : CB mr) {s : Rw} {n m p q : Nat} (hR : RT sh mi mr 8 s n m p q) (hI : Inv s n m p q) {K : Nat} (h1 : 1 ≤ K) (hK : K ≤ 10) : CP (d + 1) mX11_deal [.ref 0, .int (nI K)] sh mi mr 0 0 (PX sh mr (fun r mi2 => r = nI (min K (10 - n)) ∧ mi2 = kdlK mi n (min K (10 - n)))) := by
  have hn10 := hI.n10; have hm8 := hI.m8; have hp6 := hI.p6; have hq14 := hI.q14
  have hT := TB.of hF hB (Or.inl rfl)
  refine CP.of (L := [_, _, _, _, _, _]) (by decide) rfl rfl (Nat.le_of_ble_eq_true rfl) ?_
  refine r_iload_n (μ := mX11_deal) (pc := 0) dX11_deal_0 rfl rfl ?_
  refine r_iconst (μ := mX11_deal) (pc := 1) (v := 1) dX11_deal_1 ic_1 ?_
  refine r_icmp_lt (μ := mX11_deal) (pc := 2) (tgt := 11) dX11_deal_2 (by decide) (fun h_2 => absurd h_2 (nI_nlt (a := K) (b := 1) h1 (by omega))) (fun h_2 => ?_)
  refine r_iload_n (μ := mX11_deal) (pc := 5) dX11_deal_5 rfl rfl ?_
  refine r_bipush (μ := mX11_deal) (pc := 6) (v := 10) dX11_deal_6 bp_10 ?_
  refine r_icmp_le (μ := mX11_deal) (pc := 8) (tgt := 14) dX11_deal_8 (by decide) (fun h_8 => ?_) (fun h_8 => absurd (nI_le (b := 10) hK (by decide)) h_8)
  refine r_iload_n (μ := mX11_deal) (pc := 14) dX11_deal_14 rfl rfl ?_
  refine r_bipush (μ := mX11_deal) (pc := 15) (v := 10) dX11_deal_15 bp_10 ?_
  refine r_aload_n (μ := mX11_deal) (pc := 17) dX11_deal_17 rfl rfl rfl ?_
  refine r_getR (μ := mX11_deal) (pc := 18) dX11_deal_18 fpX11_36 rfl (hF _ _ rfl) (by decide) (hB _ _ _ rfl) ?_
  refine r_getI (μ := mX11_deal) (pc := 21) dX11_deal_21 fpX11_98 rfl (hF _ _ rfl) (by decide) ?_
  refine r_isub (μ := mX11_deal) (pc := 24) dX11_deal_24 ?_
  rw [hR.en, show (10 : Int32) - nI n = nI (10 - n) from pk_sub (a := 10) hn10]
  refine r_mmin (μ := mX11_deal) (pc := 25) dX11_deal_25 lkX11_123 (Nat.le_of_ble_eq_true rfl) ?_
  rw [mn_n (by omega) (by omega)]
  refine s_istore_n (μ := mX11_deal) (pc := 28) (L2 := [_, _, _, _, _, _]) dX11_deal_28 rfl (Nat.le_of_ble_eq_true rfl) (Nat.le_of_ble_eq_true rfl) rfl rfl ?_
  refine r_iconst (μ := mX11_deal) (pc := 29) (v := 0) dX11_deal_29 ic_0 ?_
  refine s_istore_n (μ := mX11_deal) (pc := 30) (L2 := [_, _, _, _, _, _]) dX11_deal_30 rfl (Nat.le_of_ble_eq_true rfl) (Nat.le_of_ble_eq_true rfl) rfl rfl ?_
  exact lp_kdeal hF hB hR.en (by omega) (PX_i ⟨rfl, rfl⟩) _ 0 (Nat.zero_add _) _ _ rfl rfl

theorem k_nights_bad {d : Nat} {sh : List Sh} {mi : MI} {mr : MR} (hF : SHC sh) (hB : CB mr) {s : Rw} {n m p q : Nat} (hR : RT sh mi mr 8 s n m p q) (hI : Inv s n m p q) {x : Int32} (hb : ¬ inB x 1 30 = true) : CP (d + 1) mX11_nights [.ref 0, .int x] sh mi mr 0 0 (PI (BADc) sh mi mr) := by
  have hn10 := hI.n10; have hm8 := hI.m8; have hp6 := hI.p6; have hq14 := hI.q14
  have hT := TB.of hF hB (Or.inl rfl)
  refine CP.of (L := [_, _, _, _]) (by decide) rfl rfl (Nat.le_of_ble_eq_true rfl) ?_
  refine r_iload_n (μ := mX11_nights) (pc := 0) dX11_nights_0 rfl rfl ?_
  refine r_iconst (μ := mX11_nights) (pc := 1) (v := 1) dX11_nights_1 ic_1 ?_
  refine r_icmp_lt (μ := mX11_nights) (pc := 2) (tgt := 11) dX11_nights_2 (by decide) (fun h_2 => ?_) (fun h_2 => ?_)
  · refine r_ldc (μ := mX11_nights) (pc := 11) dX11_nights_11 ctX11_97 ?_
    exact r_iret (μ := mX11_nights) (pc := 13) dX11_nights_13 rfl rfl (PI_i rfl)
  · refine r_iload_n (μ := mX11_nights) (pc := 5) dX11_nights_5 rfl rfl ?_
    refine r_bipush (μ := mX11_nights) (pc := 6) (v := 30) dX11_nights_6 bp_30 ?_
    refine r_icmp_le (μ := mX11_nights) (pc := 8) (tgt := 14) dX11_nights_8 (by decide) (fun h_8 => ?_) (fun h_8 => ?_)
    · exact absurd (by have h1 := Int32.le_iff_toInt_le.mp h_8; have h2 := mt Int32.lt_iff_toInt_lt.mpr h_2; have e1 : (1 : Int32).toInt = 1 := rfl; have e2 : (30 : Int32).toInt = 30 := rfl; unfold inB; exact decide_eq_true (by omega)) hb
    · refine r_ldc (μ := mX11_nights) (pc := 11) dX11_nights_11 ctX11_97 ?_
      exact r_iret (μ := mX11_nights) (pc := 13) dX11_nights_13 rfl rfl (PI_i rfl)

theorem lp_knights {d : Nat} {sh : List Sh} {mi : MI} {mr : MR} {Q : QT} (hF : SHC sh) (hB : CB mr) {s : Rw} {n m p q : Nat} (hR : RT sh mi mr 8 s n m p q) (hI : Inv s n m p q) {K : Nat} (hK : K ≤ 30) (hW : ∀ l, l < m → mi 45 l = bitsB (rchS s q l) n) (hq : ∀ mi2, (∀ x, x ≠ 8 → x ≠ 14 → mi2 x = mi x) → RT sh mi2 mr 8 (ngtsR s q n m K).1 n m p q → Q (some (.int (nI (ngtsR s q n m K).2))) sh mi2 mr) :
    ∀ (k i : Nat), i + k = K → ∀ mi2, (∀ x, x ≠ 8 → x ≠ 14 → mi2 x = mi x) → RT sh mi2 mr 8 (ngtsR s q n m i).1 n m p q → WP (d + 3) mX11_nights 29 [.ref 0, .int (nI K), .int (nI (ngtsR s q n m i).2), .int (nI i)] [] sh mi2 mr 0 0 Q := by
  have hn10 := hI.n10; have hm8 := hI.m8; have hp6 := hI.p6; have hq14 := hI.q14
  have hT := TB.of hF hB (Or.inl rfl)
  intro k
  induction k with
  | zero =>
    intro i hk mi2 hfr hX
    obtain rfl : i = K := by omega
    refine r_iload_n (μ := mX11_nights) (pc := 29) dX11_nights_29 rfl rfl ?_
    refine r_iload_n (μ := mX11_nights) (pc := 30) dX11_nights_30 rfl rfl ?_
    refine r_icmp_ge (μ := mX11_nights) (pc := 31) (tgt := 57) dX11_nights_31 (by decide) (fun h_31 => ?_) (fun h_31 => absurd (nI_le (Nat.le_refl _) (by omega)) h_31)
    refine r_iload_n (μ := mX11_nights) (pc := 57) dX11_nights_57 rfl rfl ?_
    exact r_iret (μ := mX11_nights) (pc := 58) dX11_nights_58 rfl rfl (hq mi2 hfr hX)
  | succ k ih =>
    intro i hk mi2 hfr hX
    obtain ⟨hIi, hRel⟩ := ngts_ok hI i
    have hWi : ∀ l, l < m → mi2 45 l = bitsB (rchS (ngtsR s q n m i).1 q l) n := fun l hl => by
      rw [hfr 45 (by decide) (by decide), hW l hl]
      exact bits_cong n (fun x hx => (rch_cong hRel q (by omega) (by have := hI.fn hl; omega) (by omega)).symm)
    refine r_iload_n (μ := mX11_nights) (pc := 29) dX11_nights_29 rfl rfl ?_
    refine r_iload_n (μ := mX11_nights) (pc := 30) dX11_nights_30 rfl rfl ?_
    refine r_icmp_ge (μ := mX11_nights) (pc := 31) (tgt := 57) dX11_nights_31 (by decide) (fun h_31 => absurd h_31 (nI_ge (by omega) (by omega))) (fun h_31 => ?_)
    refine r_iload_n (μ := mX11_nights) (pc := 34) dX11_nights_34 rfl rfl ?_
    refine r_aload_n (μ := mX11_nights) (pc := 35) dX11_nights_35 rfl rfl rfl ?_
    refine r_getR (μ := mX11_nights) (pc := 36) dX11_nights_36 fpX11_36 rfl (hF _ _ rfl) (by decide) (hB _ _ _ rfl) ?_
    refine r_aload_n (μ := mX11_nights) (pc := 39) dX11_nights_39 rfl rfl rfl ?_
    refine r_getR (μ := mX11_nights) (pc := 40) dX11_nights_40 fpX11_55 rfl (hF _ _ rfl) (by decide) (hB _ _ _ rfl) ?_
    refine r_getR (μ := mX11_nights) (pc := 43) dX11_nights_43 fpX11_211 rfl (hF _ _ rfl) (by decide) (hB _ _ _ rfl) ?_
    refine vX1 (μ := mX11_nights) (pc := 46) (c0 := 9) (q0 := (RX9, TX9, 20)) (μ2 := mX9_night) dX11_nights_46 (hF _ _ rfl) rfl lkX11_214 imX9_night seX9_X9_night_X9_night mwX9_night (Nat.le_of_ble_eq_true rfl) (k_night hT (by decide) hX hIi (hF 45 _ rfl) (by decide) hWi) (fun r_46 mi_46 h_46 => ?_)
    obtain ⟨rfl, h46, hX2⟩ := h_46
    refine r_iadd (μ := mX11_nights) (pc := 49) dX11_nights_49 ?_
    refine s_istore_n (μ := mX11_nights) (pc := 50) (L2 := [_, _, _, _]) dX11_nights_50 rfl (Nat.le_of_ble_eq_true rfl) (Nat.le_of_ble_eq_true rfl) rfl rfl ?_
    refine s_iinc (μ := mX11_nights) (pc := 51) (c := 1) (L2 := [_, _, _, _]) dX11_nights_51 rfl ic_1 (Nat.le_of_ble_eq_true rfl) rfl rfl ?_
    refine r_goto (μ := mX11_nights) (pc := 54) (tgt := 29) dX11_nights_54 (by decide) ?_
    exact WP.L (by rw [nI_add, nI_succ]; rfl) (ih (i + 1) (by omega) _ (fun x h1 h2 => (h46 x h1 h2).trans (hfr x h1 h2)) hX2)

theorem k_nights {d : Nat} {sh : List Sh} {mi : MI} {mr : MR} (hF : SHC sh) (hB : CB mr) {s : Rw} {n m p q : Nat} (hR : RT sh mi mr 8 s n m p q) (hI : Inv s n m p q) {K : Nat} (h1 : 1 ≤ K) (hK : K ≤ 30) : CP (d + 7) mX11_nights [.ref 0, .int (nI K)] sh mi mr 0 0 (PY (fun r sh2 mi2 mr2 => r = nI (ngtsR s q n m K).2 ∧ sh2 = sh ∧ mr2 = upR mr 44 0 (some 8) ∧ (∀ x, x ≠ 8 → x ≠ 14 → x ≠ 19 → x ≠ 45 → x ≠ 46 → mi2 x = mi x) ∧ RT sh mi2 mr2 8 (ngtsR s q n m K).1 n m p q)) := by
  have hn10 := hI.n10; have hm8 := hI.m8; have hp6 := hI.p6; have hq14 := hI.q14
  have hT := TB.of hF hB (Or.inl rfl)
  refine CP.of (L := [_, _, _, _]) (by decide) rfl rfl (Nat.le_of_ble_eq_true rfl) ?_
  refine r_iload_n (μ := mX11_nights) (pc := 0) dX11_nights_0 rfl rfl ?_
  refine r_iconst (μ := mX11_nights) (pc := 1) (v := 1) dX11_nights_1 ic_1 ?_
  refine r_icmp_lt (μ := mX11_nights) (pc := 2) (tgt := 11) dX11_nights_2 (by decide) (fun h_2 => absurd h_2 (nI_nlt (a := K) (b := 1) h1 (by omega))) (fun h_2 => ?_)
  refine r_iload_n (μ := mX11_nights) (pc := 5) dX11_nights_5 rfl rfl ?_
  refine r_bipush (μ := mX11_nights) (pc := 6) (v := 30) dX11_nights_6 bp_30 ?_
  refine r_icmp_le (μ := mX11_nights) (pc := 8) (tgt := 14) dX11_nights_8 (by decide) (fun h_8 => ?_) (fun h_8 => absurd (nI_le (b := 30) hK (by decide)) h_8)
  refine r_aload_n (μ := mX11_nights) (pc := 14) dX11_nights_14 rfl rfl rfl ?_
  refine r_getR (μ := mX11_nights) (pc := 15) dX11_nights_15 fpX11_55 rfl (hF _ _ rfl) (by decide) (hB _ _ _ rfl) ?_
  refine r_aload_n (μ := mX11_nights) (pc := 18) dX11_nights_18 rfl rfl rfl ?_
  refine r_getR (μ := mX11_nights) (pc := 19) dX11_nights_19 fpX11_36 rfl (hF _ _ rfl) (by decide) (hB _ _ _ rfl) ?_
  refine vW1 (μ := mX11_nights) (pc := 22) (c0 := 10) (q0 := (RX10, TX10, 4)) (μ2 := mX10_look) dX11_nights_22 (hF _ _ rfl) rfl lkX11_208 imX10_look seX10_X10_look_X10_look mwX10_look (Nat.le_of_ble_eq_true rfl) (k_look hF hB (Or.inl rfl) hR hI) (fun sh_22 mi_22 mr_22 h_22 => ?_)
  obtain ⟨rfl, rfl, hfr, hS⟩ := h_22
  have hw := lk_w (mr := mr) (b := 8)
  have hB0 := hB
  have hB := lk_B (b := 8) hB
  have hR0 := hR
  have hR := lk_R hR hfr
  have hT := TB.of hF hB (Or.inl rfl)
  have hWF := lk_F hfr
  refine r_iconst (μ := mX11_nights) (pc := 25) (v := 0) dX11_nights_25 ic_0 ?_
  refine s_istore_n (μ := mX11_nights) (pc := 26) (L2 := [_, _, _, _]) dX11_nights_26 rfl (Nat.le_of_ble_eq_true rfl) (Nat.le_of_ble_eq_true rfl) rfl rfl ?_
  refine r_iconst (μ := mX11_nights) (pc := 27) (v := 0) dX11_nights_27 ic_0 ?_
  refine s_istore_n (μ := mX11_nights) (pc := 28) (L2 := [_, _, _, _]) dX11_nights_28 rfl (Nat.le_of_ble_eq_true rfl) (Nat.le_of_ble_eq_true rfl) rfl rfl ?_
  exact lp_knights (d := d + 4) hF hB hR hI hK (fun l hl => hS.r hl) (fun mi2 h1 h2 => PY_i ⟨rfl, rfl, rfl, fun x a1 a2 a3 a4 a5 => (h1 x a1 a2).trans (hfr x a4 a5 a3), h2⟩) K 0 (Nat.zero_add _) _ (fun _ _ _ => rfl) hR

theorem k_way_bad {d : Nat} {sh : List Sh} {mi : MI} {mr : MR} (hF : SHC sh) (hB : CB mr) {s : Rw} {n m p q : Nat} (hR : RT sh mi mr 8 s n m p q) (hI : Inv s n m p q) {x y w : Int32} (hb : ¬ (inR x n = true ∧ inR y n = true ∧ inB w 0 2 = true)) : CP (d + 1) mX11_way [.ref 0, .int x, .int y, .int w] sh mi mr 0 0 (PI (BADc) sh mi mr) := by
  have hn10 := hI.n10; have hm8 := hI.m8; have hp6 := hI.p6; have hq14 := hI.q14
  have hT := TB.of hF hB (Or.inl rfl)
  refine CP.of (L := [_, _, _, _]) (by decide) rfl rfl (Nat.le_of_ble_eq_true rfl) ?_
  refine r_iload_n (μ := mX11_way) (pc := 0) dX11_way_0 rfl rfl ?_
  refine r_aload_n (μ := mX11_way) (pc := 1) dX11_way_1 rfl rfl rfl ?_
  refine r_getR (μ := mX11_way) (pc := 2) dX11_way_2 fpX11_36 rfl (hF _ _ rfl) (by decide) (hB _ _ _ rfl) ?_
  refine r_getI (μ := mX11_way) (pc := 5) dX11_way_5 fpX11_98 rfl (hF _ _ rfl) (by decide) ?_
  refine sP2 (μ := mX11_way) (pc := 8) (μ2 := mX11_within) dX11_way_8 lkX11_93 stX11_within mwX11_within (Nat.le_of_ble_eq_true rfl) (k_within hR.en (by omega)) ?_
  refine r_if_eq (μ := mX11_way) (pc := 11) (tgt := 36) dX11_way_11 (by decide) (fun h_11 => ?_) (fun h_11 => ?_)
  · have h_11 := b2i_0 h_11
    refine r_ldc (μ := mX11_way) (pc := 36) dX11_way_36 ctX11_97 ?_
    exact r_iret (μ := mX11_way) (pc := 38) dX11_way_38 rfl rfl (PI_i rfl)
  · have h_11 := b2i_1 h_11
    refine r_iload_n (μ := mX11_way) (pc := 14) dX11_way_14 rfl rfl ?_
    refine r_aload_n (μ := mX11_way) (pc := 15) dX11_way_15 rfl rfl rfl ?_
    refine r_getR (μ := mX11_way) (pc := 16) dX11_way_16 fpX11_36 rfl (hF _ _ rfl) (by decide) (hB _ _ _ rfl) ?_
    refine r_getI (μ := mX11_way) (pc := 19) dX11_way_19 fpX11_98 rfl (hF _ _ rfl) (by decide) ?_
    refine sP2 (μ := mX11_way) (pc := 22) (μ2 := mX11_within) dX11_way_22 lkX11_93 stX11_within mwX11_within (Nat.le_of_ble_eq_true rfl) (k_within hR.en (by omega)) ?_
    refine r_if_eq (μ := mX11_way) (pc := 25) (tgt := 36) dX11_way_25 (by decide) (fun h_25 => ?_) (fun h_25 => ?_)
    · have h_25 := b2i_0 h_25
      refine r_ldc (μ := mX11_way) (pc := 36) dX11_way_36 ctX11_97 ?_
      exact r_iret (μ := mX11_way) (pc := 38) dX11_way_38 rfl rfl (PI_i rfl)
    · have h_25 := b2i_1 h_25
      refine r_iload_n (μ := mX11_way) (pc := 28) dX11_way_28 rfl rfl ?_
      refine r_iconst (μ := mX11_way) (pc := 29) (v := 3) dX11_way_29 ic_3 ?_
      refine sP2 (μ := mX11_way) (pc := 30) (μ2 := mX11_within) dX11_way_30 lkX11_93 stX11_within mwX11_within (Nat.le_of_ble_eq_true rfl) (k_within (n := 3) rfl (by decide)) ?_
      rw [inR_B _ 2]
      refine r_if_ne (μ := mX11_way) (pc := 33) (tgt := 39) dX11_way_33 (by decide) (fun h_33 => ?_) (fun h_33 => ?_)
      · have h_33 := b2i_1 h_33
        exact absurd ⟨h_11, h_25, h_33⟩ hb
      · have h_33 := b2i_0 h_33
        refine r_ldc (μ := mX11_way) (pc := 36) dX11_way_36 ctX11_97 ?_
        exact r_iret (μ := mX11_way) (pc := 38) dX11_way_38 rfl rfl (PI_i rfl)

theorem k_way {d : Nat} {sh : List Sh} {mi : MI} {mr : MR} (hF : SHC sh) (hB : CB mr) {s : Rw} {n m p q : Nat} (hR : RT sh mi mr 8 s n m p q) (hI : Inv s n m p q) {a b : Nat} (ha : a < n) (hb : b < n) {w : Int32} (hw3 : inB w 0 2 = true) : CP (d + 7) mX11_way [.ref 0, .int (nI a), .int (nI b), .int w] sh mi mr 0 0 (WY sh mi mr (wayS s q m a b w)) := by
  have hn10 := hI.n10; have hm8 := hI.m8; have hp6 := hI.p6; have hq14 := hI.q14
  have hT := TB.of hF hB (Or.inl rfl)
  obtain ⟨wj, hwj, rfl⟩ := inB_of (hi := 2) hw3
  have hw4 : wj = 0 ∨ wj = 1 ∨ wj = 2 := by omega
  have hmf := mes_far hI ha b
  refine CP.of (L := [_, _, _, _]) (by decide) rfl rfl (Nat.le_of_ble_eq_true rfl) ?_
  refine r_iload_n (μ := mX11_way) (pc := 0) dX11_way_0 rfl rfl ?_
  refine r_aload_n (μ := mX11_way) (pc := 1) dX11_way_1 rfl rfl rfl ?_
  refine r_getR (μ := mX11_way) (pc := 2) dX11_way_2 fpX11_36 rfl (hF _ _ rfl) (by decide) (hB _ _ _ rfl) ?_
  refine r_getI (μ := mX11_way) (pc := 5) dX11_way_5 fpX11_98 rfl (hF _ _ rfl) (by decide) ?_
  refine sP2 (μ := mX11_way) (pc := 8) (μ2 := mX11_within) dX11_way_8 lkX11_93 stX11_within mwX11_within (Nat.le_of_ble_eq_true rfl) (k_within hR.en (by omega)) ?_
  refine r_if_eq (μ := mX11_way) (pc := 11) (tgt := 36) dX11_way_11 (by decide) (fun h_11 => absurd h_11 (b2i_ne (inR_nI ha (by omega)))) (fun h_11 => ?_)
  refine r_iload_n (μ := mX11_way) (pc := 14) dX11_way_14 rfl rfl ?_
  refine r_aload_n (μ := mX11_way) (pc := 15) dX11_way_15 rfl rfl rfl ?_
  refine r_getR (μ := mX11_way) (pc := 16) dX11_way_16 fpX11_36 rfl (hF _ _ rfl) (by decide) (hB _ _ _ rfl) ?_
  refine r_getI (μ := mX11_way) (pc := 19) dX11_way_19 fpX11_98 rfl (hF _ _ rfl) (by decide) ?_
  refine sP2 (μ := mX11_way) (pc := 22) (μ2 := mX11_within) dX11_way_22 lkX11_93 stX11_within mwX11_within (Nat.le_of_ble_eq_true rfl) (k_within hR.en (by omega)) ?_
  refine r_if_eq (μ := mX11_way) (pc := 25) (tgt := 36) dX11_way_25 (by decide) (fun h_25 => absurd h_25 (b2i_ne (inR_nI hb (by omega)))) (fun h_25 => ?_)
  refine r_iload_n (μ := mX11_way) (pc := 28) dX11_way_28 rfl rfl ?_
  refine r_iconst (μ := mX11_way) (pc := 29) (v := 3) dX11_way_29 ic_3 ?_
  refine sP2 (μ := mX11_way) (pc := 30) (μ2 := mX11_within) dX11_way_30 lkX11_93 stX11_within mwX11_within (Nat.le_of_ble_eq_true rfl) (k_within (n := 3) rfl (by decide)) ?_
  rw [inR_B _ 2]
  refine r_if_ne (μ := mX11_way) (pc := 33) (tgt := 39) dX11_way_33 (by decide) (fun h_33 => ?_) (fun h_33 => absurd h_33 (b2i_ne hw3))
  refine r_aload_n (μ := mX11_way) (pc := 39) dX11_way_39 rfl rfl rfl ?_
  refine r_getR (μ := mX11_way) (pc := 40) dX11_way_40 fpX11_55 rfl (hF _ _ rfl) (by decide) (hB _ _ _ rfl) ?_
  refine r_aload_n (μ := mX11_way) (pc := 43) dX11_way_43 rfl rfl rfl ?_
  refine r_getR (μ := mX11_way) (pc := 44) dX11_way_44 fpX11_36 rfl (hF _ _ rfl) (by decide) (hB _ _ _ rfl) ?_
  refine vW1 (μ := mX11_way) (pc := 47) (c0 := 10) (q0 := (RX10, TX10, 4)) (μ2 := mX10_look) dX11_way_47 (hF _ _ rfl) rfl lkX11_208 imX10_look seX10_X10_look_X10_look mwX10_look (Nat.le_of_ble_eq_true rfl) (k_look hF hB (Or.inl rfl) hR hI) (fun sh_47 mi_47 mr_47 h_47 => ?_)
  obtain ⟨rfl, rfl, hfr, hS⟩ := h_47
  have hw := lk_w (mr := mr) (b := 8)
  have hB0 := hB
  have hB := lk_B (b := 8) hB
  have hR0 := hR
  have hR := lk_R hR hfr
  have hT := TB.of hF hB (Or.inl rfl)
  have hWF := lk_F hfr
  refine r_aload_n (μ := mX11_way) (pc := 50) dX11_way_50 rfl rfl rfl ?_
  refine r_getR (μ := mX11_way) (pc := 51) dX11_way_51 fpX11_55 rfl (hF _ _ rfl) (by decide) (hB _ _ _ rfl) ?_
  refine r_iload_n (μ := mX11_way) (pc := 54) dX11_way_54 rfl rfl ?_
  refine vV1 (μ := mX11_way) (pc := 55) (c0 := 10) (q0 := (RX10, TX10, 4)) (μ2 := mX10_measureFrom) dX11_way_55 (hF _ _ rfl) rfl lkX11_218 imX10_measureFrom seX10_X10_measureFrom_X10_measureFrom mwX10_measureFrom (Nat.le_of_ble_eq_true rfl) (k_measureFrom hF hB (Or.inl rfl) hw hR hI hS ha) (fun mi_55 h_55 => ?_)
  obtain ⟨hX, hD⟩ := h_55
  have hR2 := hR.w hX.w47
  refine r_aload_n (μ := mX11_way) (pc := 58) dX11_way_58 rfl rfl rfl ?_
  refine r_getR (μ := mX11_way) (pc := 59) dX11_way_59 fpX11_55 rfl (hF _ _ rfl) (by decide) (hB _ _ _ rfl) ?_
  refine r_iload_n (μ := mX11_way) (pc := 62) dX11_way_62 rfl rfl ?_
  refine vP1 (μ := mX11_way) (pc := 63) (c0 := 10) (q0 := (RX10, TX10, 4)) (μ2 := mX10_measured) dX11_way_63 (hF _ _ rfl) rfl lkX11_222 imX10_measured seX10_X10_measured_X10_measured mwX10_measured (Nat.le_of_ble_eq_true rfl) (k_measured hF hB hD (mesS_le s q m a) (by omega)) ?_
  refine r_if_ne (μ := mX11_way) (pc := 66) (tgt := 72) dX11_way_66 (by decide) (fun h_66 => ?_) (fun h_66 => ?_)
  · have h_66 := b2i_1 h_66
    have h66 := of_decide_eq_true h_66
    have hf : ¬ farS s q m a b = 1000000 ∧ mesS s q m a b / 16 = farS s q m a b / 100 ∧ mesS s q m a b % 16 = farS s q m a b % 100 := by omega
    refine r_iload_n (μ := mX11_way) (pc := 72) dX11_way_72 rfl rfl ?_
    rcases hw4 with rfl | rfl | rfl
    · refine r_look (μ := mX11_way) (pc := 73) (tgt := 100) dX11_way_73 (by decide) rfl (by decide) ?_
      refine r_aload_n (μ := mX11_way) (pc := 100) dX11_way_100 rfl rfl rfl ?_
      refine r_getR (μ := mX11_way) (pc := 101) dX11_way_101 fpX11_55 rfl (hF _ _ rfl) (by decide) (hB _ _ _ rfl) ?_
      refine r_iload_n (μ := mX11_way) (pc := 104) dX11_way_104 rfl rfl ?_
      refine vP1 (μ := mX11_way) (pc := 105) (c0 := 10) (q0 := (RX10, TX10, 4)) (μ2 := mX10_minutesTo) dX11_way_105 (hF _ _ rfl) rfl lkX11_226 imX10_minutesTo seX10_X10_minutesTo_X10_minutesTo mwX10_minutesTo (Nat.le_of_ble_eq_true rfl) (k_minutesTo hF hB hD (mesS_le s q m a) (by omega)) ?_
      exact r_iret (μ := mX11_way) (pc := 108) dX11_way_108 rfl rfl (WY_i (by unfold wayS; rw [if_neg hf.1, if_pos h66, hf.2.1]; rfl) (hWF.tr hX.w47))
    · refine r_look (μ := mX11_way) (pc := 73) (tgt := 109) dX11_way_73 (by decide) rfl (by decide) ?_
      refine r_aload_n (μ := mX11_way) (pc := 109) dX11_way_109 rfl rfl rfl ?_
      refine r_getR (μ := mX11_way) (pc := 110) dX11_way_110 fpX11_55 rfl (hF _ _ rfl) (by decide) (hB _ _ _ rfl) ?_
      refine r_iload_n (μ := mX11_way) (pc := 113) dX11_way_113 rfl rfl ?_
      refine vP1 (μ := mX11_way) (pc := 114) (c0 := 10) (q0 := (RX10, TX10, 4)) (μ2 := mX10_laddersTo) dX11_way_114 (hF _ _ rfl) rfl lkX11_229 imX10_laddersTo seX10_X10_laddersTo_X10_laddersTo mwX10_laddersTo (Nat.le_of_ble_eq_true rfl) (k_laddersTo hF hB hD (mesS_le s q m a) (by omega)) ?_
      exact r_iret (μ := mX11_way) (pc := 117) dX11_way_117 rfl rfl (WY_i (by unfold wayS; rw [if_neg hf.1, hf.2.2]; rfl) (hWF.tr hX.w47))
    · refine r_look (μ := mX11_way) (pc := 73) (tgt := 118) dX11_way_73 (by decide) rfl (by decide) ?_
      refine r_aload_n (μ := mX11_way) (pc := 118) dX11_way_118 rfl rfl rfl ?_
      refine r_getR (μ := mX11_way) (pc := 119) dX11_way_119 fpX11_36 rfl (hF _ _ rfl) (by decide) (hB _ _ _ rfl) ?_
      refine r_aload_n (μ := mX11_way) (pc := 122) dX11_way_122 rfl rfl rfl ?_
      refine r_getR (μ := mX11_way) (pc := 123) dX11_way_123 fpX11_55 rfl (hF _ _ rfl) (by decide) (hB _ _ _ rfl) ?_
      refine r_iload_n (μ := mX11_way) (pc := 126) dX11_way_126 rfl rfl ?_
      refine vP1 (μ := mX11_way) (pc := 127) (c0 := 10) (q0 := (RX10, TX10, 4)) (μ2 := mX10_minutesTo) dX11_way_127 (hF _ _ rfl) rfl lkX11_226 imX10_minutesTo seX10_X10_minutesTo_X10_minutesTo mwX10_minutesTo (Nat.le_of_ble_eq_true rfl) (k_minutesTo hF hB hD (mesS_le s q m a) (by omega)) ?_
      refine r_aload_n (μ := mX11_way) (pc := 130) dX11_way_130 rfl rfl rfl ?_
      refine r_getR (μ := mX11_way) (pc := 131) dX11_way_131 fpX11_55 rfl (hF _ _ rfl) (by decide) (hB _ _ _ rfl) ?_
      refine r_iload_n (μ := mX11_way) (pc := 134) dX11_way_134 rfl rfl ?_
      refine vP1 (μ := mX11_way) (pc := 135) (c0 := 10) (q0 := (RX10, TX10, 4)) (μ2 := mX10_laddersTo) dX11_way_135 (hF _ _ rfl) rfl lkX11_229 imX10_laddersTo seX10_X10_laddersTo_X10_laddersTo mwX10_laddersTo (Nat.le_of_ble_eq_true rfl) (k_laddersTo hF hB hD (mesS_le s q m a) (by omega)) ?_
      refine vX2 (μ := mX11_way) (pc := 138) (c0 := 9) (q0 := (RX9, TX9, 20)) (μ2 := mX9_tollOf) dX11_way_138 (hF _ _ rfl) rfl lkX11_232 imX9_tollOf seX9_X9_tollOf_X9_tollOf mwX9_tollOf (Nat.le_of_ble_eq_true rfl) (k_tollOf hT (by decide) hR2 hI) (fun r_138 mi_138 h_138 => ?_)
      obtain ⟨rfl, h138⟩ := h_138
      exact r_iret (μ := mX11_way) (pc := 141) dX11_way_141 rfl rfl (WY_i (by unfold wayS; rw [if_neg hf.1, if_pos h66, hf.2.1, hf.2.2]; rfl) ((hWF.tr hX.w47).tr h138.w19))
  · have h_66 := b2i_0 h_66
    have h66 := of_decide_eq_false h_66
    have hf : farS s q m a b = 1000000 := by omega
    refine r_ldc (μ := mX11_way) (pc := 69) dX11_way_69 ctX11_225 ?_
    exact r_iret (μ := mX11_way) (pc := 71) dX11_way_71 rfl rfl (WY_i (by unfold wayS; rw [if_pos hf]; rfl) (hWF.tr hX.w47))

theorem k_reached_bad {d : Nat} {sh : List Sh} {mi : MI} {mr : MR} (hF : SHC sh) (hB : CB mr) {s : Rw} {n m p q : Nat} (hR : RT sh mi mr 8 s n m p q) (hI : Inv s n m p q) {x : Int32} (hb : ¬ inR x n = true) : CP (d + 1) mX11_reached [.ref 0, .int x] sh mi mr 0 0 (PI (BADc) sh mi mr) := by
  have hn10 := hI.n10; have hm8 := hI.m8; have hp6 := hI.p6; have hq14 := hI.q14
  have hT := TB.of hF hB (Or.inl rfl)
  refine CP.of (L := [_, _]) (by decide) rfl rfl (Nat.le_of_ble_eq_true rfl) ?_
  refine r_iload_n (μ := mX11_reached) (pc := 0) dX11_reached_0 rfl rfl ?_
  refine r_aload_n (μ := mX11_reached) (pc := 1) dX11_reached_1 rfl rfl rfl ?_
  refine r_getR (μ := mX11_reached) (pc := 2) dX11_reached_2 fpX11_36 rfl (hF _ _ rfl) (by decide) (hB _ _ _ rfl) ?_
  refine r_getI (μ := mX11_reached) (pc := 5) dX11_reached_5 fpX11_98 rfl (hF _ _ rfl) (by decide) ?_
  refine sP2 (μ := mX11_reached) (pc := 8) (μ2 := mX11_within) dX11_reached_8 lkX11_93 stX11_within mwX11_within (Nat.le_of_ble_eq_true rfl) (k_within hR.en (by omega)) ?_
  refine r_if_ne (μ := mX11_reached) (pc := 11) (tgt := 17) dX11_reached_11 (by decide) (fun h_11 => ?_) (fun h_11 => ?_)
  · have h_11 := b2i_1 h_11
    exact absurd h_11 hb
  · have h_11 := b2i_0 h_11
    refine r_ldc (μ := mX11_reached) (pc := 14) dX11_reached_14 ctX11_97 ?_
    exact r_iret (μ := mX11_reached) (pc := 16) dX11_reached_16 rfl rfl (PI_i rfl)

theorem k_reached {d : Nat} {sh : List Sh} {mi : MI} {mr : MR} (hF : SHC sh) (hB : CB mr) {s : Rw} {n m p q : Nat} (hR : RT sh mi mr 8 s n m p q) (hI : Inv s n m p q) {a : Nat} (ha : a < n) : CP (d + 7) mX11_reached [.ref 0, .int (nI a)] sh mi mr 0 0 (WY sh mi mr (rbS s q m (-1) a)) := by
  have hn10 := hI.n10; have hm8 := hI.m8; have hp6 := hI.p6; have hq14 := hI.q14
  have hT := TB.of hF hB (Or.inl rfl)
  refine CP.of (L := [_, _]) (by decide) rfl rfl (Nat.le_of_ble_eq_true rfl) ?_
  refine r_iload_n (μ := mX11_reached) (pc := 0) dX11_reached_0 rfl rfl ?_
  refine r_aload_n (μ := mX11_reached) (pc := 1) dX11_reached_1 rfl rfl rfl ?_
  refine r_getR (μ := mX11_reached) (pc := 2) dX11_reached_2 fpX11_36 rfl (hF _ _ rfl) (by decide) (hB _ _ _ rfl) ?_
  refine r_getI (μ := mX11_reached) (pc := 5) dX11_reached_5 fpX11_98 rfl (hF _ _ rfl) (by decide) ?_
  refine sP2 (μ := mX11_reached) (pc := 8) (μ2 := mX11_within) dX11_reached_8 lkX11_93 stX11_within mwX11_within (Nat.le_of_ble_eq_true rfl) (k_within hR.en (by omega)) ?_
  refine r_if_ne (μ := mX11_reached) (pc := 11) (tgt := 17) dX11_reached_11 (by decide) (fun h_11 => ?_) (fun h_11 => absurd h_11 (b2i_ne (inR_nI ha (by omega))))
  refine r_aload_n (μ := mX11_reached) (pc := 17) dX11_reached_17 rfl rfl rfl ?_
  refine r_getR (μ := mX11_reached) (pc := 18) dX11_reached_18 fpX11_55 rfl (hF _ _ rfl) (by decide) (hB _ _ _ rfl) ?_
  refine r_aload_n (μ := mX11_reached) (pc := 21) dX11_reached_21 rfl rfl rfl ?_
  refine r_getR (μ := mX11_reached) (pc := 22) dX11_reached_22 fpX11_36 rfl (hF _ _ rfl) (by decide) (hB _ _ _ rfl) ?_
  refine vW1 (μ := mX11_reached) (pc := 25) (c0 := 10) (q0 := (RX10, TX10, 4)) (μ2 := mX10_look) dX11_reached_25 (hF _ _ rfl) rfl lkX11_208 imX10_look seX10_X10_look_X10_look mwX10_look (Nat.le_of_ble_eq_true rfl) (k_look hF hB (Or.inl rfl) hR hI) (fun sh_25 mi_25 mr_25 h_25 => ?_)
  obtain ⟨rfl, rfl, hfr, hS⟩ := h_25
  have hw := lk_w (mr := mr) (b := 8)
  have hB0 := hB
  have hB := lk_B (b := 8) hB
  have hR0 := hR
  have hR := lk_R hR hfr
  have hT := TB.of hF hB (Or.inl rfl)
  have hWF := lk_F hfr
  refine r_aload_n (μ := mX11_reached) (pc := 28) dX11_reached_28 rfl rfl rfl ?_
  refine r_getR (μ := mX11_reached) (pc := 29) dX11_reached_29 fpX11_55 rfl (hF _ _ rfl) (by decide) (hB _ _ _ rfl) ?_
  refine r_iload_n (μ := mX11_reached) (pc := 32) dX11_reached_32 rfl rfl ?_
  refine vP1 (μ := mX11_reached) (pc := 33) (c0 := 10) (q0 := (RX10, TX10, 4)) (μ2 := mX10_reachedFrom) dX11_reached_33 (hF _ _ rfl) rfl lkX11_235 imX10_reachedFrom seX10_X10_reachedFrom_X10_reachedFrom mwX10_reachedFrom (Nat.le_of_ble_eq_true rfl) (k_reachedFrom hF hB (Or.inl rfl) hw hS ha) ?_
  exact r_iret (μ := mX11_reached) (pc := 36) dX11_reached_36 rfl rfl (WY_i rfl hWF)

theorem k_needed_bad {d : Nat} {sh : List Sh} {mi : MI} {mr : MR} (hF : SHC sh) (hB : CB mr) {s : Rw} {n m p q : Nat} (hR : RT sh mi mr 8 s n m p q) (hI : Inv s n m p q) {x y : Int32} (hb : ¬ (inR x n = true ∧ inR y n = true)) : CP (d + 1) mX11_needed [.ref 0, .int x, .int y] sh mi mr 0 0 (PI (BADc) sh mi mr) := by
  have hn10 := hI.n10; have hm8 := hI.m8; have hp6 := hI.p6; have hq14 := hI.q14
  have hT := TB.of hF hB (Or.inl rfl)
  refine CP.of (L := [_, _, _, _, _]) (by decide) rfl rfl (Nat.le_of_ble_eq_true rfl) ?_
  refine r_iload_n (μ := mX11_needed) (pc := 0) dX11_needed_0 rfl rfl ?_
  refine r_aload_n (μ := mX11_needed) (pc := 1) dX11_needed_1 rfl rfl rfl ?_
  refine r_getR (μ := mX11_needed) (pc := 2) dX11_needed_2 fpX11_36 rfl (hF _ _ rfl) (by decide) (hB _ _ _ rfl) ?_
  refine r_getI (μ := mX11_needed) (pc := 5) dX11_needed_5 fpX11_98 rfl (hF _ _ rfl) (by decide) ?_
  refine sP2 (μ := mX11_needed) (pc := 8) (μ2 := mX11_within) dX11_needed_8 lkX11_93 stX11_within mwX11_within (Nat.le_of_ble_eq_true rfl) (k_within hR.en (by omega)) ?_
  refine r_if_eq (μ := mX11_needed) (pc := 11) (tgt := 28) dX11_needed_11 (by decide) (fun h_11 => ?_) (fun h_11 => ?_)
  · have h_11 := b2i_0 h_11
    refine r_ldc (μ := mX11_needed) (pc := 28) dX11_needed_28 ctX11_97 ?_
    exact r_iret (μ := mX11_needed) (pc := 30) dX11_needed_30 rfl rfl (PI_i rfl)
  · have h_11 := b2i_1 h_11
    refine r_iload_n (μ := mX11_needed) (pc := 14) dX11_needed_14 rfl rfl ?_
    refine r_aload_n (μ := mX11_needed) (pc := 15) dX11_needed_15 rfl rfl rfl ?_
    refine r_getR (μ := mX11_needed) (pc := 16) dX11_needed_16 fpX11_36 rfl (hF _ _ rfl) (by decide) (hB _ _ _ rfl) ?_
    refine r_getI (μ := mX11_needed) (pc := 19) dX11_needed_19 fpX11_98 rfl (hF _ _ rfl) (by decide) ?_
    refine sP2 (μ := mX11_needed) (pc := 22) (μ2 := mX11_within) dX11_needed_22 lkX11_93 stX11_within mwX11_within (Nat.le_of_ble_eq_true rfl) (k_within hR.en (by omega)) ?_
    refine r_if_ne (μ := mX11_needed) (pc := 25) (tgt := 31) dX11_needed_25 (by decide) (fun h_25 => ?_) (fun h_25 => ?_)
    · have h_25 := b2i_1 h_25
      exact absurd ⟨h_11, h_25⟩ hb
    · have h_25 := b2i_0 h_25
      refine r_ldc (μ := mX11_needed) (pc := 28) dX11_needed_28 ctX11_97 ?_
      exact r_iret (μ := mX11_needed) (pc := 30) dX11_needed_30 rfl rfl (PI_i rfl)

theorem lp_kneeded {d : Nat} {sh : List Sh} {mi : MI} {mr : MR} {Q : QT} (hF : SHC sh) (hB : CB mr) {s : Rw} {n m p q : Nat} (hR : RT sh mi mr 8 s n m p q) (hI : Inv s n m p q) (hw : mr 44 0 = some 8) (hS : WS mi 8 s n m q) {a b : Nat} (ha : a < n) (hb : b < n) (hq : Q (some (.int (bitsB (fun l => !rbB s q m (nI l) a b) m))) sh mi mr) : ∀ (k i : Nat), i + k = m → WP (d + 4) mX11_needed 65 [.ref 0, .int (nI a), .int (nI b), .int (bitsB (fun l => !rbB s q m (nI l) a b) i), .int (nI i)] [] sh mi mr 0 0 Q := by
  have hn10 := hI.n10; have hm8 := hI.m8; have hp6 := hI.p6; have hq14 := hI.q14
  have hT := TB.of hF hB (Or.inl rfl)
  intro k
  induction k with
  | zero =>
    intro i hk
    obtain rfl : i = m := by omega
    refine r_iload (μ := mX11_needed) (pc := 65) dX11_needed_65 rfl ?_
    refine r_aload_n (μ := mX11_needed) (pc := 67) dX11_needed_67 rfl rfl rfl ?_
    refine r_getR (μ := mX11_needed) (pc := 68) dX11_needed_68 fpX11_36 rfl (hF _ _ rfl) (by decide) (hB _ _ _ rfl) ?_
    refine r_getI (μ := mX11_needed) (pc := 71) dX11_needed_71 fpX11_139 rfl (hF _ _ rfl) (by decide) ?_
    rw [hR.em]
    refine r_icmp_ge (μ := mX11_needed) (pc := 74) (tgt := 107) dX11_needed_74 (by decide) (fun h_74 => ?_) (fun h_74 => absurd (nI_le (Nat.le_refl _) (by omega)) h_74)
    refine r_iload_n (μ := mX11_needed) (pc := 107) dX11_needed_107 rfl rfl ?_
    exact r_iret (μ := mX11_needed) (pc := 108) dX11_needed_108 rfl rfl hq
  | succ k ih =>
    intro i hk
    have hi : i < m := by omega
    refine r_iload (μ := mX11_needed) (pc := 65) dX11_needed_65 rfl ?_
    refine r_aload_n (μ := mX11_needed) (pc := 67) dX11_needed_67 rfl rfl rfl ?_
    refine r_getR (μ := mX11_needed) (pc := 68) dX11_needed_68 fpX11_36 rfl (hF _ _ rfl) (by decide) (hB _ _ _ rfl) ?_
    refine r_getI (μ := mX11_needed) (pc := 71) dX11_needed_71 fpX11_139 rfl (hF _ _ rfl) (by decide) ?_
    rw [hR.em]
    refine r_icmp_ge (μ := mX11_needed) (pc := 74) (tgt := 107) dX11_needed_74 (by decide) (fun h_74 => absurd h_74 (nI_ge (by omega) (by omega))) (fun h_74 => ?_)
    refine r_aload_n (μ := mX11_needed) (pc := 77) dX11_needed_77 rfl rfl rfl ?_
    refine r_getR (μ := mX11_needed) (pc := 78) dX11_needed_78 fpX11_55 rfl (hF _ _ rfl) (by decide) (hB _ _ _ rfl) ?_
    refine r_iload (μ := mX11_needed) (pc := 81) dX11_needed_81 rfl ?_
    refine r_iload_n (μ := mX11_needed) (pc := 83) dX11_needed_83 rfl rfl ?_
    refine vP2 (μ := mX11_needed) (pc := 84) (c0 := 10) (q0 := (RX10, TX10, 4)) (μ2 := mX10_reachedWithout) dX11_needed_84 (hF _ _ rfl) rfl lkX11_238 imX10_reachedWithout seX10_X10_reachedWithout_X10_reachedWithout mwX10_reachedWithout (Nat.le_of_ble_eq_true rfl) (k_reachedWithout hF hB (Or.inl rfl) hw hS ha hi) ?_
    refine r_iload_n (μ := mX11_needed) (pc := 87) dX11_needed_87 rfl rfl ?_
    refine sP2 (μ := mX11_needed) (pc := 88) (μ2 := mX11_has) dX11_needed_88 lkX11_170 stX11_has mwX11_has (Nat.le_of_ble_eq_true rfl) (k_has rfl (by omega)) ?_
    rw [rb_bt (by omega)]
    refine r_if_ne (μ := mX11_needed) (pc := 91) (tgt := 101) dX11_needed_91 (by decide) (fun h_91 => ?_) (fun h_91 => ?_)
    · have h_91 := b2i_1 h_91
      refine s_iinc (μ := mX11_needed) (pc := 101) (c := 1) (L2 := [_, _, _, _, _]) dX11_needed_101 rfl ic_1 (Nat.le_of_ble_eq_true rfl) rfl rfl ?_
      refine r_goto (μ := mX11_needed) (pc := 104) (tgt := 65) dX11_needed_104 (by decide) ?_
      exact WP.L (by simp [bitsB, nI_succ, h_91]) (ih (i + 1) (by omega))
    · have h_91 := b2i_0 h_91
      refine r_iload_n (μ := mX11_needed) (pc := 94) dX11_needed_94 rfl rfl ?_
      refine r_iconst (μ := mX11_needed) (pc := 95) (v := 1) dX11_needed_95 ic_1 ?_
      refine r_iload (μ := mX11_needed) (pc := 96) dX11_needed_96 rfl ?_
      refine r_ishl (μ := mX11_needed) (pc := 98) dX11_needed_98 ?_
      refine r_ior (μ := mX11_needed) (pc := 99) dX11_needed_99 ?_
      refine s_istore_n (μ := mX11_needed) (pc := 100) (L2 := [_, _, _, _, _]) dX11_needed_100 rfl (Nat.le_of_ble_eq_true rfl) (Nat.le_of_ble_eq_true rfl) rfl rfl ?_
      refine s_iinc (μ := mX11_needed) (pc := 101) (c := 1) (L2 := [_, _, _, _, _]) dX11_needed_101 rfl ic_1 (Nat.le_of_ble_eq_true rfl) rfl rfl ?_
      refine r_goto (μ := mX11_needed) (pc := 104) (tgt := 65) dX11_needed_104 (by decide) ?_
      exact WP.L (by simp [bitsB, nI_succ, h_91]) (ih (i + 1) (by omega))

theorem k_needed {d : Nat} {sh : List Sh} {mi : MI} {mr : MR} (hF : SHC sh) (hB : CB mr) {s : Rw} {n m p q : Nat} (hR : RT sh mi mr 8 s n m p q) (hI : Inv s n m p q) {a b : Nat} (ha : a < n) (hb : b < n) : CP (d + 7) mX11_needed [.ref 0, .int (nI a), .int (nI b)] sh mi mr 0 0 (WY sh mi mr (if rbB s q m (-1) a b = true then bitsB (fun l => !rbB s q m (nI l) a b) m else NONEc)) := by
  have hn10 := hI.n10; have hm8 := hI.m8; have hp6 := hI.p6; have hq14 := hI.q14
  have hT := TB.of hF hB (Or.inl rfl)
  refine CP.of (L := [_, _, _, _, _]) (by decide) rfl rfl (Nat.le_of_ble_eq_true rfl) ?_
  refine r_iload_n (μ := mX11_needed) (pc := 0) dX11_needed_0 rfl rfl ?_
  refine r_aload_n (μ := mX11_needed) (pc := 1) dX11_needed_1 rfl rfl rfl ?_
  refine r_getR (μ := mX11_needed) (pc := 2) dX11_needed_2 fpX11_36 rfl (hF _ _ rfl) (by decide) (hB _ _ _ rfl) ?_
  refine r_getI (μ := mX11_needed) (pc := 5) dX11_needed_5 fpX11_98 rfl (hF _ _ rfl) (by decide) ?_
  refine sP2 (μ := mX11_needed) (pc := 8) (μ2 := mX11_within) dX11_needed_8 lkX11_93 stX11_within mwX11_within (Nat.le_of_ble_eq_true rfl) (k_within hR.en (by omega)) ?_
  refine r_if_eq (μ := mX11_needed) (pc := 11) (tgt := 28) dX11_needed_11 (by decide) (fun h_11 => absurd h_11 (b2i_ne (inR_nI ha (by omega)))) (fun h_11 => ?_)
  refine r_iload_n (μ := mX11_needed) (pc := 14) dX11_needed_14 rfl rfl ?_
  refine r_aload_n (μ := mX11_needed) (pc := 15) dX11_needed_15 rfl rfl rfl ?_
  refine r_getR (μ := mX11_needed) (pc := 16) dX11_needed_16 fpX11_36 rfl (hF _ _ rfl) (by decide) (hB _ _ _ rfl) ?_
  refine r_getI (μ := mX11_needed) (pc := 19) dX11_needed_19 fpX11_98 rfl (hF _ _ rfl) (by decide) ?_
  refine sP2 (μ := mX11_needed) (pc := 22) (μ2 := mX11_within) dX11_needed_22 lkX11_93 stX11_within mwX11_within (Nat.le_of_ble_eq_true rfl) (k_within hR.en (by omega)) ?_
  refine r_if_ne (μ := mX11_needed) (pc := 25) (tgt := 31) dX11_needed_25 (by decide) (fun h_25 => ?_) (fun h_25 => absurd h_25 (b2i_ne (inR_nI hb (by omega))))
  refine r_aload_n (μ := mX11_needed) (pc := 31) dX11_needed_31 rfl rfl rfl ?_
  refine r_getR (μ := mX11_needed) (pc := 32) dX11_needed_32 fpX11_55 rfl (hF _ _ rfl) (by decide) (hB _ _ _ rfl) ?_
  refine r_aload_n (μ := mX11_needed) (pc := 35) dX11_needed_35 rfl rfl rfl ?_
  refine r_getR (μ := mX11_needed) (pc := 36) dX11_needed_36 fpX11_36 rfl (hF _ _ rfl) (by decide) (hB _ _ _ rfl) ?_
  refine vW1 (μ := mX11_needed) (pc := 39) (c0 := 10) (q0 := (RX10, TX10, 4)) (μ2 := mX10_look) dX11_needed_39 (hF _ _ rfl) rfl lkX11_208 imX10_look seX10_X10_look_X10_look mwX10_look (Nat.le_of_ble_eq_true rfl) (k_look hF hB (Or.inl rfl) hR hI) (fun sh_39 mi_39 mr_39 h_39 => ?_)
  obtain ⟨rfl, rfl, hfr, hS⟩ := h_39
  have hw := lk_w (mr := mr) (b := 8)
  have hB0 := hB
  have hB := lk_B (b := 8) hB
  have hR0 := hR
  have hR := lk_R hR hfr
  have hT := TB.of hF hB (Or.inl rfl)
  have hWF := lk_F hfr
  refine r_aload_n (μ := mX11_needed) (pc := 42) dX11_needed_42 rfl rfl rfl ?_
  refine r_getR (μ := mX11_needed) (pc := 43) dX11_needed_43 fpX11_55 rfl (hF _ _ rfl) (by decide) (hB _ _ _ rfl) ?_
  refine r_iload_n (μ := mX11_needed) (pc := 46) dX11_needed_46 rfl rfl ?_
  refine vP1 (μ := mX11_needed) (pc := 47) (c0 := 10) (q0 := (RX10, TX10, 4)) (μ2 := mX10_reachedFrom) dX11_needed_47 (hF _ _ rfl) rfl lkX11_235 imX10_reachedFrom seX10_X10_reachedFrom_X10_reachedFrom mwX10_reachedFrom (Nat.le_of_ble_eq_true rfl) (k_reachedFrom hF hB (Or.inl rfl) hw hS ha) ?_
  refine r_iload_n (μ := mX11_needed) (pc := 50) dX11_needed_50 rfl rfl ?_
  refine sP2 (μ := mX11_needed) (pc := 51) (μ2 := mX11_has) dX11_needed_51 lkX11_170 stX11_has mwX11_has (Nat.le_of_ble_eq_true rfl) (k_has rfl (by omega)) ?_
  rw [rb_bt (by omega)]
  refine r_if_ne (μ := mX11_needed) (pc := 54) (tgt := 60) dX11_needed_54 (by decide) (fun h_54 => ?_) (fun h_54 => ?_)
  · have h_54 := b2i_1 h_54
    refine r_iconst (μ := mX11_needed) (pc := 60) (v := 0) dX11_needed_60 ic_0 ?_
    refine s_istore_n (μ := mX11_needed) (pc := 61) (L2 := [_, _, _, _, _]) dX11_needed_61 rfl (Nat.le_of_ble_eq_true rfl) (Nat.le_of_ble_eq_true rfl) rfl rfl ?_
    refine r_iconst (μ := mX11_needed) (pc := 62) (v := 0) dX11_needed_62 ic_0 ?_
    refine s_istore (μ := mX11_needed) (pc := 63) (L2 := [_, _, _, _, _]) dX11_needed_63 (Nat.le_of_ble_eq_true rfl) (Nat.le_of_ble_eq_true rfl) rfl rfl ?_
    exact lp_kneeded (d := d + 3) hF hB hR hI hw hS ha hb (WY_i (by rw [if_pos h_54]) hWF) m 0 (Nat.zero_add _)
  · have h_54 := b2i_0 h_54
    refine r_ldc (μ := mX11_needed) (pc := 57) dX11_needed_57 ctX11_225 ?_
    exact r_iret (μ := mX11_needed) (pc := 59) dX11_needed_59 rfl rfl (WY_i (by rw [h_54]; rfl) hWF)

theorem mtR_c (s : Rw) (q m p : Nat) : ∀ i, (mtR s q m p i).1 = -1 ∨ ∃ j, j < i ∧ (mtR s q m p i).1 = nI j
  | 0 => Or.inl rfl
  | i + 1 => by
    unfold mtR
    split
    · exact Or.inr ⟨i, by omega, rfl⟩
    · exact (mtR_c s q m p i).imp id (fun ⟨j, h1, h2⟩ => ⟨j, by omega, h2⟩)
def noneI (x : Int32) : Int32 := if x < 0 then NONEc else x
theorem noneI_e {x : Int32} (h : x = -1 ∨ ∃ j, j < 1000 ∧ x = nI j) : (noneI x = NONEc ↔ x < 0) := by
  rcases h with rfl | ⟨j, hj, rfl⟩
  · exact ⟨fun _ => by decide, fun _ => rfl⟩
  · have h0 : ¬ nI j < 0 := nI_pos (by omega)
    unfold noneI
    rw [if_neg h0]
    constructor
    · intro z; rw [z] at h0; exact absurd (by decide) h0
    · intro z; exact absurd z h0

theorem lp_kmeet {d : Nat} {sh : List Sh} {mi : MI} {mr : MR} {Q : QT} (hF : SHC sh) (hB : CB mr) {s : Rw} {n m p q : Nat} (hR : RT sh mi mr 8 s n m p q) (hI : Inv s n m p q) (hw : mr 44 0 = some 8) (hS : WS mi 8 s n m q) (hq : ∀ mi2, SP 47 mi mi2 → Q (some (.int (noneI (mtR s q m p n).1))) sh mi2 mr) : ∀ (k i : Nat), i + k = n → ∀ mi2, SP 47 mi mi2 → ∀ x4 : Value, catL x4 = true → WP (d + 6) mX11_meeting 31 [.ref 0, .int (noneI (mtR s q m p i).1), .int (nI (mtR s q m p i).2), .int (nI i), x4] [] sh mi2 mr 0 0 Q := by
  have hn10 := hI.n10; have hm8 := hI.m8; have hp6 := hI.p6; have hq14 := hI.q14
  have hT := TB.of hF hB (Or.inl rfl)
  intro k
  induction k with
  | zero =>
    intro i hk mi2 hX x4 hx4
    obtain rfl : i = n := by omega
    have hR2 := hR.w hX.w47
    refine r_iload_n (μ := mX11_meeting) (pc := 31) dX11_meeting_31 rfl rfl ?_
    refine r_aload_n (μ := mX11_meeting) (pc := 32) dX11_meeting_32 rfl rfl rfl ?_
    refine r_getR (μ := mX11_meeting) (pc := 33) dX11_meeting_33 fpX11_36 rfl (hF _ _ rfl) (by decide) (hB _ _ _ rfl) ?_
    refine r_getI (μ := mX11_meeting) (pc := 36) dX11_meeting_36 fpX11_98 rfl (hF _ _ rfl) (by decide) ?_
    rw [hR2.en]
    refine r_icmp_ge (μ := mX11_meeting) (pc := 39) (tgt := 80) dX11_meeting_39 (by decide) (fun h_39 => ?_) (fun h_39 => absurd (nI_le (Nat.le_refl _) (by omega)) h_39)
    refine r_iload_n (μ := mX11_meeting) (pc := 80) dX11_meeting_80 rfl rfl ?_
    exact r_iret (μ := mX11_meeting) (pc := 81) dX11_meeting_81 rfl rfl (hq mi2 hX)
  | succ k ih =>
    intro i hk mi2 hX x4 hx4
    have hi : i < n := by omega
    have hR2 := hR.w hX.w47
    have hne := noneI_e ((mtR_c s q m p i).imp id (fun ⟨j, h1, h2⟩ => ⟨j, by omega, h2⟩))
    have hle := mtR_le s q m p i
    have hsl := mtSum_le s q m i p
    have hst : mtR s q m p (i + 1) = if mtAll s q m p i = true ∧ ((mtR s q m p i).1 < 0 ∨ mtSum s q m p i < (mtR s q m p i).2) then (nI i, mtSum s q m p i) else mtR s q m p i := rfl
    refine r_iload_n (μ := mX11_meeting) (pc := 31) dX11_meeting_31 rfl rfl ?_
    refine r_aload_n (μ := mX11_meeting) (pc := 32) dX11_meeting_32 rfl rfl rfl ?_
    refine r_getR (μ := mX11_meeting) (pc := 33) dX11_meeting_33 fpX11_36 rfl (hF _ _ rfl) (by decide) (hB _ _ _ rfl) ?_
    refine r_getI (μ := mX11_meeting) (pc := 36) dX11_meeting_36 fpX11_98 rfl (hF _ _ rfl) (by decide) ?_
    rw [hR2.en]
    refine r_icmp_ge (μ := mX11_meeting) (pc := 39) (tgt := 80) dX11_meeting_39 (by decide) (fun h_39 => absurd h_39 (nI_ge (by omega) (by omega))) (fun h_39 => ?_)
    refine r_aload_n (μ := mX11_meeting) (pc := 42) dX11_meeting_42 rfl rfl rfl ?_
    refine r_getR (μ := mX11_meeting) (pc := 43) dX11_meeting_43 fpX11_55 rfl (hF _ _ rfl) (by decide) (hB _ _ _ rfl) ?_
    refine r_iload_n (μ := mX11_meeting) (pc := 46) dX11_meeting_46 rfl rfl ?_
    refine vX1 (μ := mX11_meeting) (pc := 47) (c0 := 10) (q0 := (RX10, TX10, 4)) (μ2 := mX10_minutesOfAllTo) dX11_meeting_47 (hF _ _ rfl) rfl lkX11_241 imX10_minutesOfAllTo seX10_X10_minutesOfAllTo_X10_minutesOfAllTo mwX10_minutesOfAllTo (Nat.le_of_ble_eq_true rfl) (k_minutesOfAllTo hF hB (Or.inl rfl) hw hR2 hI (hS.w hX) hi) (fun r_47 mi_47 h_47 => ?_)
    obtain ⟨rfl, h47⟩ := h_47
    refine s_istore (μ := mX11_meeting) (pc := 50) (L2 := [_, _, _, _, _]) dX11_meeting_50 (Nat.le_of_ble_eq_true rfl) (Nat.le_of_ble_eq_true rfl) (by simp only [List.all_cons, List.all_nil, catL_i, catL_r, hx4, Bool.and_self]) rfl ?_
    refine r_iload (μ := mX11_meeting) (pc := 52) dX11_meeting_52 rfl ?_
    refine r_if_lt (μ := mX11_meeting) (pc := 54) (tgt := 74) dX11_meeting_54 (by decide) (fun h_54 => ?_) (fun h_54 => ?_)
    · have hal : ¬ mtAll s q m p i = true := fun z => by rw [if_pos z] at h_54; exact nI_pos (by omega) h_54
      rw [if_neg (fun z => hal z.1)] at hst
      refine s_iinc (μ := mX11_meeting) (pc := 74) (c := 1) (L2 := [_, _, _, _, _]) dX11_meeting_74 rfl ic_1 (Nat.le_of_ble_eq_true rfl) (by simp only [List.all_cons, List.all_nil, catL_i, catL_r, hx4, Bool.and_self]) rfl ?_
      refine r_goto (μ := mX11_meeting) (pc := 77) (tgt := 31) dX11_meeting_77 (by decide) ?_
      exact WP.L (by rw [hst, nI_succ]) (ih (i + 1) (by omega) _ (hX.tr h47) (.int (if mtAll s q m p i = true then nI (mtSum s q m p i) else -1)) rfl)
    · have hal : mtAll s q m p i = true := by by_cases z : mtAll s q m p i = true; (· exact z); (· rw [if_neg z] at h_54; exact absurd (by decide) h_54)
      simp only [if_pos hal]
      refine r_iload_n (μ := mX11_meeting) (pc := 57) dX11_meeting_57 rfl rfl ?_
      refine r_ldc (μ := mX11_meeting) (pc := 58) dX11_meeting_58 ctX11_225 ?_
      refine r_icmp_eq (μ := mX11_meeting) (pc := 60) (tgt := 69) dX11_meeting_60 (by decide) (fun h_60 => ?_) (fun h_60 => ?_)
      · have h60 := hne.mp h_60
        rw [if_pos ⟨hal, Or.inl h60⟩] at hst
        refine r_iload_n (μ := mX11_meeting) (pc := 69) dX11_meeting_69 rfl rfl ?_
        refine s_istore_n (μ := mX11_meeting) (pc := 70) (L2 := [_, _, _, _, _]) dX11_meeting_70 rfl (Nat.le_of_ble_eq_true rfl) (Nat.le_of_ble_eq_true rfl) (by simp only [List.all_cons, List.all_nil, catL_i, catL_r, hx4, Bool.and_self]) rfl ?_
        refine r_iload (μ := mX11_meeting) (pc := 71) dX11_meeting_71 rfl ?_
        refine s_istore_n (μ := mX11_meeting) (pc := 73) (L2 := [_, _, _, _, _]) dX11_meeting_73 rfl (Nat.le_of_ble_eq_true rfl) (Nat.le_of_ble_eq_true rfl) (by simp only [List.all_cons, List.all_nil, catL_i, catL_r, hx4, Bool.and_self]) rfl ?_
        refine s_iinc (μ := mX11_meeting) (pc := 74) (c := 1) (L2 := [_, _, _, _, _]) dX11_meeting_74 rfl ic_1 (Nat.le_of_ble_eq_true rfl) (by simp only [List.all_cons, List.all_nil, catL_i, catL_r, hx4, Bool.and_self]) rfl ?_
        refine r_goto (μ := mX11_meeting) (pc := 77) (tgt := 31) dX11_meeting_77 (by decide) ?_
        exact WP.L (by rw [hst, show noneI (nI i) = nI i from if_neg (nI_pos (by omega)), nI_succ]) (ih (i + 1) (by omega) _ (hX.tr h47) (.int (nI (mtSum s q m p i))) rfl)
      · refine r_iload (μ := mX11_meeting) (pc := 63) dX11_meeting_63 rfl ?_
        refine r_iload_n (μ := mX11_meeting) (pc := 65) dX11_meeting_65 rfl rfl ?_
        refine r_icmp_ge (μ := mX11_meeting) (pc := 66) (tgt := 74) dX11_meeting_66 (by decide) (fun h_66 => ?_) (fun h_66 => ?_)
        · have h66 := (nI_leI (by omega) (by omega)).mp h_66
          rw [if_neg (fun z => z.2.elim (fun y => h_60 (hne.mpr y)) (fun y => by omega))] at hst
          refine s_iinc (μ := mX11_meeting) (pc := 74) (c := 1) (L2 := [_, _, _, _, _]) dX11_meeting_74 rfl ic_1 (Nat.le_of_ble_eq_true rfl) (by simp only [List.all_cons, List.all_nil, catL_i, catL_r, hx4, Bool.and_self]) rfl ?_
          refine r_goto (μ := mX11_meeting) (pc := 77) (tgt := 31) dX11_meeting_77 (by decide) ?_
          exact WP.L (by rw [hst, nI_succ]) (ih (i + 1) (by omega) _ (hX.tr h47) (.int (nI (mtSum s q m p i))) rfl)
        · have h66 := mt (nI_leI (a := (mtR s q m p i).2) (b := mtSum s q m p i) (by omega) (by omega)).mpr h_66
          rw [if_pos ⟨hal, Or.inr (by omega)⟩] at hst
          refine r_iload_n (μ := mX11_meeting) (pc := 69) dX11_meeting_69 rfl rfl ?_
          refine s_istore_n (μ := mX11_meeting) (pc := 70) (L2 := [_, _, _, _, _]) dX11_meeting_70 rfl (Nat.le_of_ble_eq_true rfl) (Nat.le_of_ble_eq_true rfl) (by simp only [List.all_cons, List.all_nil, catL_i, catL_r, hx4, Bool.and_self]) rfl ?_
          refine r_iload (μ := mX11_meeting) (pc := 71) dX11_meeting_71 rfl ?_
          refine s_istore_n (μ := mX11_meeting) (pc := 73) (L2 := [_, _, _, _, _]) dX11_meeting_73 rfl (Nat.le_of_ble_eq_true rfl) (Nat.le_of_ble_eq_true rfl) (by simp only [List.all_cons, List.all_nil, catL_i, catL_r, hx4, Bool.and_self]) rfl ?_
          refine s_iinc (μ := mX11_meeting) (pc := 74) (c := 1) (L2 := [_, _, _, _, _]) dX11_meeting_74 rfl ic_1 (Nat.le_of_ble_eq_true rfl) (by simp only [List.all_cons, List.all_nil, catL_i, catL_r, hx4, Bool.and_self]) rfl ?_
          refine r_goto (μ := mX11_meeting) (pc := 77) (tgt := 31) dX11_meeting_77 (by decide) ?_
          exact WP.L (by rw [hst, show noneI (nI i) = nI i from if_neg (nI_pos (by omega)), nI_succ]) (ih (i + 1) (by omega) _ (hX.tr h47) (.int (nI (mtSum s q m p i))) rfl)

theorem k_meeting {d : Nat} {sh : List Sh} {mi : MI} {mr : MR} (hF : SHC sh) (hB : CB mr) {s : Rw} {n m p q : Nat} (hR : RT sh mi mr 8 s n m p q) (hI : Inv s n m p q) : CP (d + 7) mX11_meeting [.ref 0] sh mi mr 0 0 (PY (fun r sh2 mi2 mr2 => r = meetS s q n m p ∧ sh2 = sh ∧ (mr2 = mr ∨ mr2 = upR mr 44 0 (some 8)) ∧ WF mi mi2)) := by
  have hn10 := hI.n10; have hm8 := hI.m8; have hp6 := hI.p6; have hq14 := hI.q14
  have hT := TB.of hF hB (Or.inl rfl)
  refine CP.of (L := [_, _, _, _, _]) (by decide) rfl rfl (Nat.le_of_ble_eq_true rfl) ?_
  refine r_aload_n (μ := mX11_meeting) (pc := 0) dX11_meeting_0 rfl rfl rfl ?_
  refine r_getR (μ := mX11_meeting) (pc := 1) dX11_meeting_1 fpX11_36 rfl (hF _ _ rfl) (by decide) (hB _ _ _ rfl) ?_
  refine r_getI (μ := mX11_meeting) (pc := 4) dX11_meeting_4 fpX11_186 rfl (hF _ _ rfl) (by decide) ?_
  rw [hR.ep]
  refine r_if_ne (μ := mX11_meeting) (pc := 7) (tgt := 13) dX11_meeting_7 (by decide) (fun h_7 => ?_) (fun h_7 => ?_)
  · have hp0 : ¬ p = 0 := fun z => h_7 (by rw [z]; rfl)
    refine r_aload_n (μ := mX11_meeting) (pc := 13) dX11_meeting_13 rfl rfl rfl ?_
    refine r_getR (μ := mX11_meeting) (pc := 14) dX11_meeting_14 fpX11_55 rfl (hF _ _ rfl) (by decide) (hB _ _ _ rfl) ?_
    refine r_aload_n (μ := mX11_meeting) (pc := 17) dX11_meeting_17 rfl rfl rfl ?_
    refine r_getR (μ := mX11_meeting) (pc := 18) dX11_meeting_18 fpX11_36 rfl (hF _ _ rfl) (by decide) (hB _ _ _ rfl) ?_
    refine vW1 (μ := mX11_meeting) (pc := 21) (c0 := 10) (q0 := (RX10, TX10, 4)) (μ2 := mX10_look) dX11_meeting_21 (hF _ _ rfl) rfl lkX11_208 imX10_look seX10_X10_look_X10_look mwX10_look (Nat.le_of_ble_eq_true rfl) (k_look hF hB (Or.inl rfl) hR hI) (fun sh_21 mi_21 mr_21 h_21 => ?_)
    obtain ⟨rfl, rfl, hfr, hS⟩ := h_21
    have hw := lk_w (mr := mr) (b := 8)
    have hB0 := hB
    have hB := lk_B (b := 8) hB
    have hR0 := hR
    have hR := lk_R hR hfr
    have hT := TB.of hF hB (Or.inl rfl)
    have hWF := lk_F hfr
    refine r_ldc (μ := mX11_meeting) (pc := 24) dX11_meeting_24 ctX11_225 ?_
    refine s_istore_n (μ := mX11_meeting) (pc := 26) (L2 := [_, _, _, _, _]) dX11_meeting_26 rfl (Nat.le_of_ble_eq_true rfl) (Nat.le_of_ble_eq_true rfl) rfl rfl ?_
    refine r_iconst (μ := mX11_meeting) (pc := 27) (v := 0) dX11_meeting_27 ic_0 ?_
    refine s_istore_n (μ := mX11_meeting) (pc := 28) (L2 := [_, _, _, _, _]) dX11_meeting_28 rfl (Nat.le_of_ble_eq_true rfl) (Nat.le_of_ble_eq_true rfl) rfl rfl ?_
    refine r_iconst (μ := mX11_meeting) (pc := 29) (v := 0) dX11_meeting_29 ic_0 ?_
    refine s_istore_n (μ := mX11_meeting) (pc := 30) (L2 := [_, _, _, _, _]) dX11_meeting_30 rfl (Nat.le_of_ble_eq_true rfl) (Nat.le_of_ble_eq_true rfl) rfl rfl ?_
    exact lp_kmeet (d := d + 1) hF hB hR hI hw hS (fun mi2 h => PY_i ⟨by unfold meetS noneI; rw [if_neg hp0]; rfl, rfl, Or.inr rfl, hWF.tr h.w47⟩) n 0 (Nat.zero_add _) _ (SP.rf _ _) _ rfl
  · have hp0 : p = 0 := (nI_eq (a := p) (b := 0) (by omega) (by decide)).mp h_7
    refine r_ldc (μ := mX11_meeting) (pc := 10) dX11_meeting_10 ctX11_225 ?_
    exact r_iret (μ := mX11_meeting) (pc := 12) dX11_meeting_12 rfl rfl (PY_i ⟨by unfold meetS; rw [if_pos hp0]; rfl, rfl, Or.inl rfl, fun _ _ _ _ _ => rfl⟩)

theorem rb_sy {s : Rw} {n m p q a b : Nat} (hI : Inv s n m p q) : rbB s q m (-1) a b = rbB s q m (-1) b a := by
  rw [Bool.eq_iff_iff, rb_iff hI, rb_iff hI]
  exact ⟨Rch.sy, Rch.sy⟩
theorem lp_kabove {d : Nat} {sh : List Sh} {mi : MI} {mr : MR} {Q : QT} (hF : SHC sh) (hB : CB mr) {s : Rw} {n m p q : Nat} (hR : RT sh mi mr 8 s n m p q) (hI : Inv s n m p q) (hq : Q (some (.int (bitsB (fun j => !rbB s q m (-1) (sN s j) 0) p))) sh mi mr) : ∀ (k i : Nat), i + k = p → WP (d + 1) mX11_above 36 [.ref 0, .int (rbS s q m (-1) 0), .int (bitsB (fun j => !rbB s q m (-1) (sN s j) 0) i), .int (nI i)] [] sh mi mr 0 0 Q := by
  have hn10 := hI.n10; have hm8 := hI.m8; have hp6 := hI.p6; have hq14 := hI.q14
  have hT := TB.of hF hB (Or.inl rfl)
  intro k
  induction k with
  | zero =>
    intro i hk
    obtain rfl : i = p := by omega
    refine r_iload_n (μ := mX11_above) (pc := 36) dX11_above_36 rfl rfl ?_
    refine r_aload_n (μ := mX11_above) (pc := 37) dX11_above_37 rfl rfl rfl ?_
    refine r_getR (μ := mX11_above) (pc := 38) dX11_above_38 fpX11_36 rfl (hF _ _ rfl) (by decide) (hB _ _ _ rfl) ?_
    refine r_getI (μ := mX11_above) (pc := 41) dX11_above_41 fpX11_186 rfl (hF _ _ rfl) (by decide) ?_
    rw [hR.ep]
    refine r_icmp_ge (μ := mX11_above) (pc := 44) (tgt := 75) dX11_above_44 (by decide) (fun h_44 => ?_) (fun h_44 => absurd (nI_le (Nat.le_refl _) (by omega)) h_44)
    refine r_iload_n (μ := mX11_above) (pc := 75) dX11_above_75 rfl rfl ?_
    exact r_iret (μ := mX11_above) (pc := 76) dX11_above_76 rfl rfl hq
  | succ k ih =>
    intro i hk
    have hi : i < p := by omega
    have hsn := hI.sn hi
    have hsp : spt s i = nI (sN s i) := hI.sp hi
    refine r_iload_n (μ := mX11_above) (pc := 36) dX11_above_36 rfl rfl ?_
    refine r_aload_n (μ := mX11_above) (pc := 37) dX11_above_37 rfl rfl rfl ?_
    refine r_getR (μ := mX11_above) (pc := 38) dX11_above_38 fpX11_36 rfl (hF _ _ rfl) (by decide) (hB _ _ _ rfl) ?_
    refine r_getI (μ := mX11_above) (pc := 41) dX11_above_41 fpX11_186 rfl (hF _ _ rfl) (by decide) ?_
    rw [hR.ep]
    refine r_icmp_ge (μ := mX11_above) (pc := 44) (tgt := 75) dX11_above_44 (by decide) (fun h_44 => absurd h_44 (nI_ge (by omega) (by omega))) (fun h_44 => ?_)
    refine r_iload_n (μ := mX11_above) (pc := 47) dX11_above_47 rfl rfl ?_
    refine r_aload_n (μ := mX11_above) (pc := 48) dX11_above_48 rfl rfl rfl ?_
    refine r_getR (μ := mX11_above) (pc := 49) dX11_above_49 fpX11_36 rfl (hF _ _ rfl) (by decide) (hB _ _ _ rfl) ?_
    refine r_getR (μ := mX11_above) (pc := 52) dX11_above_52 fpX11_192 rfl (hF _ _ rfl) (by decide) (hB _ _ _ rfl) ?_
    refine r_iload_n (μ := mX11_above) (pc := 55) dX11_above_55 rfl rfl ?_
    refine r_iaload (μ := mX11_above) (pc := 56) (j := i) dX11_above_56 (hF _ _ rfl) rfl (by omega) (by decide) ?_
    rw [hR.sp hi, hsp]
    refine sP2 (μ := mX11_above) (pc := 57) (μ2 := mX11_has) dX11_above_57 lkX11_170 stX11_has mwX11_has (Nat.le_of_ble_eq_true rfl) (k_has rfl (by omega)) ?_
    rw [rb_bt (by omega), rb_sy hI]
    refine r_if_ne (μ := mX11_above) (pc := 60) (tgt := 69) dX11_above_60 (by decide) (fun h_60 => ?_) (fun h_60 => ?_)
    · have h_60 := b2i_1 h_60
      refine s_iinc (μ := mX11_above) (pc := 69) (c := 1) (L2 := [_, _, _, _]) dX11_above_69 rfl ic_1 (Nat.le_of_ble_eq_true rfl) rfl rfl ?_
      refine r_goto (μ := mX11_above) (pc := 72) (tgt := 36) dX11_above_72 (by decide) ?_
      exact WP.L (by simp [bitsB, nI_succ, h_60]) (ih (i + 1) (by omega))
    · have h_60 := b2i_0 h_60
      refine r_iload_n (μ := mX11_above) (pc := 63) dX11_above_63 rfl rfl ?_
      refine r_iconst (μ := mX11_above) (pc := 64) (v := 1) dX11_above_64 ic_1 ?_
      refine r_iload_n (μ := mX11_above) (pc := 65) dX11_above_65 rfl rfl ?_
      refine r_ishl (μ := mX11_above) (pc := 66) dX11_above_66 ?_
      refine r_ior (μ := mX11_above) (pc := 67) dX11_above_67 ?_
      refine s_istore_n (μ := mX11_above) (pc := 68) (L2 := [_, _, _, _]) dX11_above_68 rfl (Nat.le_of_ble_eq_true rfl) (Nat.le_of_ble_eq_true rfl) rfl rfl ?_
      refine s_iinc (μ := mX11_above) (pc := 69) (c := 1) (L2 := [_, _, _, _]) dX11_above_69 rfl ic_1 (Nat.le_of_ble_eq_true rfl) rfl rfl ?_
      refine r_goto (μ := mX11_above) (pc := 72) (tgt := 36) dX11_above_72 (by decide) ?_
      exact WP.L (by simp [bitsB, nI_succ, h_60]) (ih (i + 1) (by omega))

theorem k_above {d : Nat} {sh : List Sh} {mi : MI} {mr : MR} (hF : SHC sh) (hB : CB mr) {s : Rw} {n m p q : Nat} (hR : RT sh mi mr 8 s n m p q) (hI : Inv s n m p q) : CP (d + 7) mX11_above [.ref 0] sh mi mr 0 0 (PY (fun r sh2 mi2 mr2 => r = bitsB (fun j => !rbB s q m (-1) (sN s j) 0) p ∧ sh2 = sh ∧ (mr2 = mr ∨ mr2 = upR mr 44 0 (some 8)) ∧ WF mi mi2)) := by
  have hn10 := hI.n10; have hm8 := hI.m8; have hp6 := hI.p6; have hq14 := hI.q14
  have hT := TB.of hF hB (Or.inl rfl)
  refine CP.of (L := [_, _, _, _]) (by decide) rfl rfl (Nat.le_of_ble_eq_true rfl) ?_
  refine r_aload_n (μ := mX11_above) (pc := 0) dX11_above_0 rfl rfl rfl ?_
  refine r_getR (μ := mX11_above) (pc := 1) dX11_above_1 fpX11_36 rfl (hF _ _ rfl) (by decide) (hB _ _ _ rfl) ?_
  refine r_getI (μ := mX11_above) (pc := 4) dX11_above_4 fpX11_186 rfl (hF _ _ rfl) (by decide) ?_
  rw [hR.ep]
  refine r_if_ne (μ := mX11_above) (pc := 7) (tgt := 12) dX11_above_7 (by decide) (fun h_7 => ?_) (fun h_7 => ?_)
  · have hp0 : ¬ p = 0 := fun z => h_7 (by rw [z]; rfl)
    have hn0 : 0 < n := Nat.lt_of_le_of_lt (Nat.zero_le _) (hI.sn (show 0 < p by omega))
    refine r_aload_n (μ := mX11_above) (pc := 12) dX11_above_12 rfl rfl rfl ?_
    refine r_getR (μ := mX11_above) (pc := 13) dX11_above_13 fpX11_55 rfl (hF _ _ rfl) (by decide) (hB _ _ _ rfl) ?_
    refine r_aload_n (μ := mX11_above) (pc := 16) dX11_above_16 rfl rfl rfl ?_
    refine r_getR (μ := mX11_above) (pc := 17) dX11_above_17 fpX11_36 rfl (hF _ _ rfl) (by decide) (hB _ _ _ rfl) ?_
    refine vW1 (μ := mX11_above) (pc := 20) (c0 := 10) (q0 := (RX10, TX10, 4)) (μ2 := mX10_look) dX11_above_20 (hF _ _ rfl) rfl lkX11_208 imX10_look seX10_X10_look_X10_look mwX10_look (Nat.le_of_ble_eq_true rfl) (k_look hF hB (Or.inl rfl) hR hI) (fun sh_20 mi_20 mr_20 h_20 => ?_)
    obtain ⟨rfl, rfl, hfr, hS⟩ := h_20
    have hw := lk_w (mr := mr) (b := 8)
    have hB0 := hB
    have hB := lk_B (b := 8) hB
    have hR0 := hR
    have hR := lk_R hR hfr
    have hT := TB.of hF hB (Or.inl rfl)
    have hWF := lk_F hfr
    refine r_aload_n (μ := mX11_above) (pc := 23) dX11_above_23 rfl rfl rfl ?_
    refine r_getR (μ := mX11_above) (pc := 24) dX11_above_24 fpX11_55 rfl (hF _ _ rfl) (by decide) (hB _ _ _ rfl) ?_
    refine r_iconst (μ := mX11_above) (pc := 27) (v := 0) dX11_above_27 ic_0 ?_
    refine vP1 (μ := mX11_above) (pc := 28) (c0 := 10) (q0 := (RX10, TX10, 4)) (μ2 := mX10_reachedFrom) dX11_above_28 (hF _ _ rfl) rfl lkX11_235 imX10_reachedFrom seX10_X10_reachedFrom_X10_reachedFrom mwX10_reachedFrom (Nat.le_of_ble_eq_true rfl) (k_reachedFrom hF hB (Or.inl rfl) hw hS (a := 0) hn0) ?_
    refine s_istore_n (μ := mX11_above) (pc := 31) (L2 := [_, _, _, _]) dX11_above_31 rfl (Nat.le_of_ble_eq_true rfl) (Nat.le_of_ble_eq_true rfl) rfl rfl ?_
    refine r_iconst (μ := mX11_above) (pc := 32) (v := 0) dX11_above_32 ic_0 ?_
    refine s_istore_n (μ := mX11_above) (pc := 33) (L2 := [_, _, _, _]) dX11_above_33 rfl (Nat.le_of_ble_eq_true rfl) (Nat.le_of_ble_eq_true rfl) rfl rfl ?_
    refine r_iconst (μ := mX11_above) (pc := 34) (v := 0) dX11_above_34 ic_0 ?_
    refine s_istore_n (μ := mX11_above) (pc := 35) (L2 := [_, _, _, _]) dX11_above_35 rfl (Nat.le_of_ble_eq_true rfl) (Nat.le_of_ble_eq_true rfl) rfl rfl ?_
    exact lp_kabove (d := d + 6) hF hB hR hI (PY_i ⟨rfl, rfl, Or.inr rfl, hWF⟩) p 0 (Nat.zero_add _)
  · have hp0 : p = 0 := (nI_eq (a := p) (b := 0) (by omega) (by decide)).mp h_7
    refine r_iconst (μ := mX11_above) (pc := 10) (v := 0) dX11_above_10 ic_0 ?_
    exact r_iret (μ := mX11_above) (pc := 11) dX11_above_11 rfl rfl (PY_i ⟨by rw [hp0]; rfl, rfl, Or.inl rfl, fun _ _ _ _ _ => rfl⟩)

theorem k_fewest_bad {d : Nat} {sh : List Sh} {mi : MI} {mr : MR} (hF : SHC sh) (hB : CB mr) {s : Rw} {n m p q : Nat} (hR : RT sh mi mr 8 s n m p q) (hI : Inv s n m p q) {x y : Int32} (hb : ¬ (inR x p = true ∧ inR y n = true)) : CP (d + 1) mX11_fewest [.ref 0, .int x, .int y] sh mi mr 0 0 (PI (BADc) sh mi mr) := by
  have hn10 := hI.n10; have hm8 := hI.m8; have hp6 := hI.p6; have hq14 := hI.q14
  have hT := TB.of hF hB (Or.inl rfl)
  refine CP.of (L := [_, _, _]) (by decide) rfl rfl (Nat.le_of_ble_eq_true rfl) ?_
  refine r_iload_n (μ := mX11_fewest) (pc := 0) dX11_fewest_0 rfl rfl ?_
  refine r_aload_n (μ := mX11_fewest) (pc := 1) dX11_fewest_1 rfl rfl rfl ?_
  refine r_getR (μ := mX11_fewest) (pc := 2) dX11_fewest_2 fpX11_36 rfl (hF _ _ rfl) (by decide) (hB _ _ _ rfl) ?_
  refine r_getI (μ := mX11_fewest) (pc := 5) dX11_fewest_5 fpX11_186 rfl (hF _ _ rfl) (by decide) ?_
  refine sP2 (μ := mX11_fewest) (pc := 8) (μ2 := mX11_within) dX11_fewest_8 lkX11_93 stX11_within mwX11_within (Nat.le_of_ble_eq_true rfl) (k_within hR.ep (by omega)) ?_
  refine r_if_eq (μ := mX11_fewest) (pc := 11) (tgt := 28) dX11_fewest_11 (by decide) (fun h_11 => ?_) (fun h_11 => ?_)
  · have h_11 := b2i_0 h_11
    refine r_ldc (μ := mX11_fewest) (pc := 28) dX11_fewest_28 ctX11_97 ?_
    exact r_iret (μ := mX11_fewest) (pc := 30) dX11_fewest_30 rfl rfl (PI_i rfl)
  · have h_11 := b2i_1 h_11
    refine r_iload_n (μ := mX11_fewest) (pc := 14) dX11_fewest_14 rfl rfl ?_
    refine r_aload_n (μ := mX11_fewest) (pc := 15) dX11_fewest_15 rfl rfl rfl ?_
    refine r_getR (μ := mX11_fewest) (pc := 16) dX11_fewest_16 fpX11_36 rfl (hF _ _ rfl) (by decide) (hB _ _ _ rfl) ?_
    refine r_getI (μ := mX11_fewest) (pc := 19) dX11_fewest_19 fpX11_98 rfl (hF _ _ rfl) (by decide) ?_
    refine sP2 (μ := mX11_fewest) (pc := 22) (μ2 := mX11_within) dX11_fewest_22 lkX11_93 stX11_within mwX11_within (Nat.le_of_ble_eq_true rfl) (k_within hR.en (by omega)) ?_
    refine r_if_ne (μ := mX11_fewest) (pc := 25) (tgt := 31) dX11_fewest_25 (by decide) (fun h_25 => ?_) (fun h_25 => ?_)
    · have h_25 := b2i_1 h_25
      exact absurd ⟨h_11, h_25⟩ hb
    · have h_25 := b2i_0 h_25
      refine r_ldc (μ := mX11_fewest) (pc := 28) dX11_fewest_28 ctX11_97 ?_
      exact r_iret (μ := mX11_fewest) (pc := 30) dX11_fewest_30 rfl rfl (PI_i rfl)

theorem k_fewest {d : Nat} {sh : List Sh} {mi : MI} {mr : MR} (hF : SHC sh) (hB : CB mr) {s : Rw} {n m p q : Nat} (hR : RT sh mi mr 8 s n m p q) (hI : Inv s n m p q) {i g : Nat} (hi : i < p) (hg : g < n) : CP (d + 8) mX11_fewest [.ref 0, .int (nI i), .int (nI g)] sh mi mr 0 0 (WY sh mi mr (fewS s n m p q i g)) := by
  have hn10 := hI.n10; have hm8 := hI.m8; have hp6 := hI.p6; have hq14 := hI.q14
  have hT := TB.of hF hB (Or.inl rfl)
  have hsn := hI.sn hi; have hsp : spt s i = nI (sN s i) := hI.sp hi
  refine CP.of (L := [_, _, _]) (by decide) rfl rfl (Nat.le_of_ble_eq_true rfl) ?_
  refine r_iload_n (μ := mX11_fewest) (pc := 0) dX11_fewest_0 rfl rfl ?_
  refine r_aload_n (μ := mX11_fewest) (pc := 1) dX11_fewest_1 rfl rfl rfl ?_
  refine r_getR (μ := mX11_fewest) (pc := 2) dX11_fewest_2 fpX11_36 rfl (hF _ _ rfl) (by decide) (hB _ _ _ rfl) ?_
  refine r_getI (μ := mX11_fewest) (pc := 5) dX11_fewest_5 fpX11_186 rfl (hF _ _ rfl) (by decide) ?_
  refine sP2 (μ := mX11_fewest) (pc := 8) (μ2 := mX11_within) dX11_fewest_8 lkX11_93 stX11_within mwX11_within (Nat.le_of_ble_eq_true rfl) (k_within hR.ep (by omega)) ?_
  refine r_if_eq (μ := mX11_fewest) (pc := 11) (tgt := 28) dX11_fewest_11 (by decide) (fun h_11 => absurd h_11 (b2i_ne (inR_nI hi (by omega)))) (fun h_11 => ?_)
  refine r_iload_n (μ := mX11_fewest) (pc := 14) dX11_fewest_14 rfl rfl ?_
  refine r_aload_n (μ := mX11_fewest) (pc := 15) dX11_fewest_15 rfl rfl rfl ?_
  refine r_getR (μ := mX11_fewest) (pc := 16) dX11_fewest_16 fpX11_36 rfl (hF _ _ rfl) (by decide) (hB _ _ _ rfl) ?_
  refine r_getI (μ := mX11_fewest) (pc := 19) dX11_fewest_19 fpX11_98 rfl (hF _ _ rfl) (by decide) ?_
  refine sP2 (μ := mX11_fewest) (pc := 22) (μ2 := mX11_within) dX11_fewest_22 lkX11_93 stX11_within mwX11_within (Nat.le_of_ble_eq_true rfl) (k_within hR.en (by omega)) ?_
  refine r_if_ne (μ := mX11_fewest) (pc := 25) (tgt := 31) dX11_fewest_25 (by decide) (fun h_25 => ?_) (fun h_25 => absurd h_25 (b2i_ne (inR_nI hg (by omega))))
  refine r_aload_n (μ := mX11_fewest) (pc := 31) dX11_fewest_31 rfl rfl rfl ?_
  refine r_getR (μ := mX11_fewest) (pc := 32) dX11_fewest_32 fpX11_55 rfl (hF _ _ rfl) (by decide) (hB _ _ _ rfl) ?_
  refine r_aload_n (μ := mX11_fewest) (pc := 35) dX11_fewest_35 rfl rfl rfl ?_
  refine r_getR (μ := mX11_fewest) (pc := 36) dX11_fewest_36 fpX11_36 rfl (hF _ _ rfl) (by decide) (hB _ _ _ rfl) ?_
  refine vW1 (μ := mX11_fewest) (pc := 39) (c0 := 10) (q0 := (RX10, TX10, 4)) (μ2 := mX10_look) dX11_fewest_39 (hF _ _ rfl) rfl lkX11_208 imX10_look seX10_X10_look_X10_look mwX10_look (Nat.le_of_ble_eq_true rfl) (k_look hF hB (Or.inl rfl) hR hI) (fun sh_39 mi_39 mr_39 h_39 => ?_)
  obtain ⟨rfl, rfl, hfr, hS⟩ := h_39
  have hw := lk_w (mr := mr) (b := 8)
  have hB0 := hB
  have hB := lk_B (b := 8) hB
  have hR0 := hR
  have hR := lk_R hR hfr
  have hT := TB.of hF hB (Or.inl rfl)
  have hWF := lk_F hfr
  refine r_aload_n (μ := mX11_fewest) (pc := 42) dX11_fewest_42 rfl rfl rfl ?_
  refine r_getR (μ := mX11_fewest) (pc := 43) dX11_fewest_43 fpX11_55 rfl (hF _ _ rfl) (by decide) (hB _ _ _ rfl) ?_
  refine r_aload_n (μ := mX11_fewest) (pc := 46) dX11_fewest_46 rfl rfl rfl ?_
  refine r_getR (μ := mX11_fewest) (pc := 47) dX11_fewest_47 fpX11_36 rfl (hF _ _ rfl) (by decide) (hB _ _ _ rfl) ?_
  refine r_getR (μ := mX11_fewest) (pc := 50) dX11_fewest_50 fpX11_192 rfl (hF _ _ rfl) (by decide) (hB _ _ _ rfl) ?_
  refine r_iload_n (μ := mX11_fewest) (pc := 53) dX11_fewest_53 rfl rfl ?_
  refine r_iaload (μ := mX11_fewest) (pc := 54) (j := i) dX11_fewest_54 (hF _ _ rfl) rfl (by omega) (by decide) ?_
  rw [hR.sp hi, hsp]
  refine r_iload_n (μ := mX11_fewest) (pc := 55) dX11_fewest_55 rfl rfl ?_
  refine r_aload_n (μ := mX11_fewest) (pc := 56) dX11_fewest_56 rfl rfl rfl ?_
  refine r_getR (μ := mX11_fewest) (pc := 57) dX11_fewest_57 fpX11_36 rfl (hF _ _ rfl) (by decide) (hB _ _ _ rfl) ?_
  refine r_iload_n (μ := mX11_fewest) (pc := 60) dX11_fewest_60 rfl rfl ?_
  refine vX1 (μ := mX11_fewest) (pc := 61) (c0 := 9) (q0 := (RX9, TX9, 20)) (μ2 := mX9_movableFromFoot) dX11_fewest_61 (hF _ _ rfl) rfl lkX11_244 imX9_movableFromFoot seX9_X9_movableFromFoot_X9_movableFromFoot mwX9_movableFromFoot (Nat.le_of_ble_eq_true rfl) (k_movableFromFoot hT (by decide) hR hI hi) (fun r_61 mi_61 h_61 => ?_)
  obtain ⟨rfl, h61⟩ := h_61
  refine vP3 (μ := mX11_fewest) (pc := 64) (c0 := 10) (q0 := (RX10, TX10, 4)) (μ2 := mX10_fewestMoves) dX11_fewest_64 (hF _ _ rfl) rfl lkX11_247 imX10_fewestMoves seX10_X10_fewestMoves_X10_fewestMoves mwX10_fewestMoves (Nat.le_of_ble_eq_true rfl) (k_fewestMoves hF hB (Or.inl rfl) hw (hS.fr (fun x hx => h61 x (by omega))) hsn hg) ?_
  exact r_iret (μ := mX11_fewest) (pc := 67) dX11_fewest_67 rfl rfl (WY_i (few_eq hI hi) (hWF.tr h61.w19))

theorem k_help_bad {d : Nat} {sh : List Sh} {mi : MI} {mr : MR} (hF : SHC sh) (hB : CB mr) {s : Rw} {n m p q : Nat} (hR : RT sh mi mr 8 s n m p q) (hI : Inv s n m p q) {x : Int32} (hb : ¬ inB x 0 2 = true) : CP (d + 1) mX11_help [.ref 0, .int x] sh mi mr 0 0 (PI (BADc) sh mi mr) := by
  have hn10 := hI.n10; have hm8 := hI.m8; have hp6 := hI.p6; have hq14 := hI.q14
  have hT := TB.of hF hB (Or.inl rfl)
  refine CP.of (L := [_, _, _, _, _, _, _, _]) (by decide) rfl rfl (Nat.le_of_ble_eq_true rfl) ?_
  refine r_iload_n (μ := mX11_help) (pc := 0) dX11_help_0 rfl rfl ?_
  refine r_iconst (μ := mX11_help) (pc := 1) (v := 3) dX11_help_1 ic_3 ?_
  refine sP2 (μ := mX11_help) (pc := 2) (μ2 := mX11_within) dX11_help_2 lkX11_93 stX11_within mwX11_within (Nat.le_of_ble_eq_true rfl) (k_within (n := 3) rfl (by decide)) ?_
  rw [inR_B _ 2]
  refine r_if_ne (μ := mX11_help) (pc := 5) (tgt := 11) dX11_help_5 (by decide) (fun h_5 => ?_) (fun h_5 => ?_)
  · have h_5 := b2i_1 h_5
    exact absurd h_5 hb
  · have h_5 := b2i_0 h_5
    refine r_ldc (μ := mX11_help) (pc := 8) dX11_help_8 ctX11_97 ?_
    exact r_iret (μ := mX11_help) (pc := 10) dX11_help_10 rfl rfl (PI_i rfl)

theorem k_help_none {d : Nat} {sh : List Sh} {mi : MI} {mr : MR} (hF : SHC sh) (hB : CB mr) {s : Rw} {n m p q : Nat} (hR : RT sh mi mr 8 s n m p q) (hI : Inv s n m p q) {x : Int32} (hb : inB x 0 2 = true) (hn0 : n = 0) : CP (d + 1) mX11_help [.ref 0, .int x] sh mi mr 0 0 (PI (NONEc) sh mi mr) := by
  have hn10 := hI.n10; have hm8 := hI.m8; have hp6 := hI.p6; have hq14 := hI.q14
  have hT := TB.of hF hB (Or.inl rfl)
  refine CP.of (L := [_, _, _, _, _, _, _, _]) (by decide) rfl rfl (Nat.le_of_ble_eq_true rfl) ?_
  refine r_iload_n (μ := mX11_help) (pc := 0) dX11_help_0 rfl rfl ?_
  refine r_iconst (μ := mX11_help) (pc := 1) (v := 3) dX11_help_1 ic_3 ?_
  refine sP2 (μ := mX11_help) (pc := 2) (μ2 := mX11_within) dX11_help_2 lkX11_93 stX11_within mwX11_within (Nat.le_of_ble_eq_true rfl) (k_within (n := 3) rfl (by decide)) ?_
  rw [inR_B _ 2]
  refine r_if_ne (μ := mX11_help) (pc := 5) (tgt := 11) dX11_help_5 (by decide) (fun h_5 => ?_) (fun h_5 => absurd h_5 (b2i_ne hb))
  refine r_aload_n (μ := mX11_help) (pc := 11) dX11_help_11 rfl rfl rfl ?_
  refine r_getR (μ := mX11_help) (pc := 12) dX11_help_12 fpX11_36 rfl (hF _ _ rfl) (by decide) (hB _ _ _ rfl) ?_
  refine r_getI (μ := mX11_help) (pc := 15) dX11_help_15 fpX11_98 rfl (hF _ _ rfl) (by decide) ?_
  refine r_if_ne (μ := mX11_help) (pc := 18) (tgt := 24) dX11_help_18 (by decide) (fun h_18 => absurd (by rw [hR.en, hn0]; rfl) h_18) (fun h_18 => ?_)
  refine r_ldc (μ := mX11_help) (pc := 21) dX11_help_21 ctX11_225 ?_
  exact r_iret (μ := mX11_help) (pc := 23) dX11_help_23 rfl rfl (PI_i rfl)

def hlI (H : Hlp) : List Value := [.int (nI H.2.2), .int (if 0 ≤ H.1 then H.1 else NONEc), .int (if 0 ≤ H.1 then H.2.1 else NONEc)]
def hpOK (H : Hlp) : Prop := (H.1 = -1 ∨ ∃ j, j < 8 ∧ H.1 = nI j) ∧ H.2.2 ≤ 10
theorem hpK_ok {s : Rw} {q m l : Nat} {H : Hlp} (h : hpOK H) (hl : l < 8) : ∀ k, hpOK (hpK s q m l H k)
  | 0 => h
  | k + 1 => by
    unfold hpK
    split
    · exact ⟨Or.inr ⟨l, hl, rfl⟩, gcnt_le _ q m⟩
    · exact hpK_ok h hl k
theorem hpR_ok {s : Rw} {q n m : Nat} : ∀ l, l ≤ 8 → hpOK (hpR s q n m l)
  | 0, _ => ⟨Or.inl rfl, gcnt_le s q m⟩
  | l + 1, h => hpK_ok (hpR_ok l (by omega)) (by omega) n

theorem lp_khK {d : Nat} {sh : List Sh} {mi : MI} {mr : MR} {Q : QT} (hF : SHC sh) (hB : CB mr) {s : Rw} {n m p q : Nat} (hR : RT sh mi mr 8 s n m p q) (hI : Inv s n m p q) (hw : mr 44 0 = some 8) (hS : WS mi 8 s n m q) {l : Nat} (hl : l < m) {w : Int32} (ho : ∀ x7 : Value, catL x7 = true → WP (d + 6) mX11_help 141 [.ref 0, .int w, .int (nI (hpK s q m l (hpR s q n m l) n).2.2), .int (if 0 ≤ (hpK s q m l (hpR s q n m l) n).1 then (hpK s q m l (hpR s q n m l) n).1 else NONEc), .int (if 0 ≤ (hpK s q m l (hpR s q n m l) n).1 then (hpK s q m l (hpR s q n m l) n).2.1 else NONEc), .int (nI l), .int (nI n), x7] [] sh mi mr 0 0 Q) : ∀ (k i : Nat), i + k = n → ∀ x7 : Value, catL x7 = true → WP (d + 6) mX11_help 72 [.ref 0, .int w, .int (nI (hpK s q m l (hpR s q n m l) i).2.2), .int (if 0 ≤ (hpK s q m l (hpR s q n m l) i).1 then (hpK s q m l (hpR s q n m l) i).1 else NONEc), .int (if 0 ≤ (hpK s q m l (hpR s q n m l) i).1 then (hpK s q m l (hpR s q n m l) i).2.1 else NONEc), .int (nI l), .int (nI i), x7] [] sh mi mr 0 0 Q := by
  have hn10 := hI.n10; have hm8 := hI.m8; have hp6 := hI.p6; have hq14 := hI.q14
  have hT := TB.of hF hB (Or.inl rfl)
  intro k
  induction k with
  | zero =>
    intro i hk x7 hx7
    obtain rfl : i = n := by omega
    refine r_iload (μ := mX11_help) (pc := 72) dX11_help_72 rfl ?_
    refine r_aload_n (μ := mX11_help) (pc := 74) dX11_help_74 rfl rfl rfl ?_
    refine r_getR (μ := mX11_help) (pc := 75) dX11_help_75 fpX11_36 rfl (hF _ _ rfl) (by decide) (hB _ _ _ rfl) ?_
    refine r_getI (μ := mX11_help) (pc := 78) dX11_help_78 fpX11_98 rfl (hF _ _ rfl) (by decide) ?_
    rw [hR.en]
    refine r_icmp_ge (μ := mX11_help) (pc := 81) (tgt := 141) dX11_help_81 (by decide) (fun h_81 => ?_) (fun h_81 => absurd (nI_le (Nat.le_refl _) (by omega)) h_81)
    exact ho x7 hx7
  | succ k ih =>
    intro i hk x7 hx7
    have hi : i < n := by omega
    have hst : hpK s q m l (hpR s q n m l) (i + 1) = if rchS s q l i = true ∧ (hpK s q m l (hpR s q n m l) i).2.2 < gcnt (lean s l i) q m then (nI l, nI i, gcnt (lean s l i) q m) else hpK s q m l (hpR s q n m l) i := rfl
    have hle := hpK_le (s := s) (q := q) (m := m) (l := l) (hpR_le s q n m l) i
    have hgl := gcnt_le (lean s l i) q m
    generalize hpK s q m l (hpR s q n m l) i = H at *
    refine r_iload (μ := mX11_help) (pc := 72) dX11_help_72 rfl ?_
    refine r_aload_n (μ := mX11_help) (pc := 74) dX11_help_74 rfl rfl rfl ?_
    refine r_getR (μ := mX11_help) (pc := 75) dX11_help_75 fpX11_36 rfl (hF _ _ rfl) (by decide) (hB _ _ _ rfl) ?_
    refine r_getI (μ := mX11_help) (pc := 78) dX11_help_78 fpX11_98 rfl (hF _ _ rfl) (by decide) ?_
    rw [hR.en]
    refine r_icmp_ge (μ := mX11_help) (pc := 81) (tgt := 141) dX11_help_81 (by decide) (fun h_81 => absurd h_81 (nI_ge (by omega) (by omega))) (fun h_81 => ?_)
    refine r_aload_n (μ := mX11_help) (pc := 84) dX11_help_84 rfl rfl rfl ?_
    refine r_getR (μ := mX11_help) (pc := 85) dX11_help_85 fpX11_55 rfl (hF _ _ rfl) (by decide) (hB _ _ _ rfl) ?_
    refine r_getR (μ := mX11_help) (pc := 88) dX11_help_88 fpX11_211 rfl (hF _ _ rfl) (by decide) (hB _ _ _ rfl) ?_
    refine r_iload (μ := mX11_help) (pc := 91) dX11_help_91 rfl ?_
    refine r_iaload (μ := mX11_help) (pc := 93) (j := l) dX11_help_93 (hF _ _ rfl) rfl (by omega) (by decide) ?_
    rw [hS.r hl]
    refine r_iload (μ := mX11_help) (pc := 94) dX11_help_94 rfl ?_
    refine sP2 (μ := mX11_help) (pc := 96) (μ2 := mX11_has) dX11_help_96 lkX11_170 stX11_has mwX11_has (Nat.le_of_ble_eq_true rfl) (k_has rfl (by omega)) ?_
    rw [bt_bits _ n (by omega) i (by omega), decide_eq_true hi, Bool.true_and]
    refine r_if_eq (μ := mX11_help) (pc := 99) (tgt := 116) dX11_help_99 (by decide) (fun h_99 => ?_) (fun h_99 => ?_)
    · have h_99 := b2i_0 h_99
      refine r_iconst (μ := mX11_help) (pc := 116) (v := 0) dX11_help_116 ic_0 ?_
      refine s_istore (μ := mX11_help) (pc := 117) (L2 := [_, _, _, _, _, _, _, _]) dX11_help_117 (Nat.le_of_ble_eq_true rfl) (Nat.le_of_ble_eq_true rfl) (by simp only [List.all_cons, List.all_nil, catL_i, catL_r, hx7, Bool.and_self]) rfl ?_
      refine r_iload (μ := mX11_help) (pc := 119) dX11_help_119 rfl ?_
      refine r_iload_n (μ := mX11_help) (pc := 121) dX11_help_121 rfl rfl ?_
      refine r_icmp_le (μ := mX11_help) (pc := 122) (tgt := 135) dX11_help_122 (by decide) (fun h_122 => ?_) (fun h_122 => absurd (nI_pos' (by omega)) h_122)
      refine s_iinc (μ := mX11_help) (pc := 135) (c := 1) (L2 := [_, _, _, _, _, _, _, _]) dX11_help_135 rfl ic_1 (Nat.le_of_ble_eq_true rfl) (by simp only [List.all_cons, List.all_nil, catL_i, catL_r, hx7, Bool.and_self]) rfl ?_
      refine r_goto (μ := mX11_help) (pc := 138) (tgt := 72) dX11_help_138 (by decide) ?_
      rw [if_neg (fun z => absurd (z.1.symm.trans h_99) (by decide))] at hst
      exact WP.L (by rw [hst, nI_succ]) (ih (i + 1) (by omega) (.int 0) rfl)
    · have h_99 := b2i_1 h_99
      refine r_aload_n (μ := mX11_help) (pc := 102) dX11_help_102 rfl rfl rfl ?_
      refine r_getR (μ := mX11_help) (pc := 103) dX11_help_103 fpX11_55 rfl (hF _ _ rfl) (by decide) (hB _ _ _ rfl) ?_
      refine r_iload (μ := mX11_help) (pc := 106) dX11_help_106 rfl ?_
      refine r_iload (μ := mX11_help) (pc := 108) dX11_help_108 rfl ?_
      refine vP2 (μ := mX11_help) (pc := 110) (c0 := 10) (q0 := (RX10, TX10, 4)) (μ2 := mX10_reachedIfMoved) dX11_help_110 (hF _ _ rfl) rfl lkX11_256 imX10_reachedIfMoved seX10_X10_reachedIfMoved_X10_reachedIfMoved mwX10_reachedIfMoved (Nat.le_of_ble_eq_true rfl) (k_reachedIfMoved hF hB (Or.inl rfl) hw hS hl hi) ?_
      refine r_goto (μ := mX11_help) (pc := 113) (tgt := 117) dX11_help_113 (by decide) ?_
      refine s_istore (μ := mX11_help) (pc := 117) (L2 := [_, _, _, _, _, _, _, _]) dX11_help_117 (Nat.le_of_ble_eq_true rfl) (Nat.le_of_ble_eq_true rfl) (by simp only [List.all_cons, List.all_nil, catL_i, catL_r, hx7, Bool.and_self]) rfl ?_
      refine r_iload (μ := mX11_help) (pc := 119) dX11_help_119 rfl ?_
      refine r_iload_n (μ := mX11_help) (pc := 121) dX11_help_121 rfl rfl ?_
      refine r_icmp_le (μ := mX11_help) (pc := 122) (tgt := 135) dX11_help_122 (by decide) (fun h_122 => ?_) (fun h_122 => ?_)
      · have h122 := (nI_leI (by omega) (by omega)).mp h_122
        refine s_iinc (μ := mX11_help) (pc := 135) (c := 1) (L2 := [_, _, _, _, _, _, _, _]) dX11_help_135 rfl ic_1 (Nat.le_of_ble_eq_true rfl) (by simp only [List.all_cons, List.all_nil, catL_i, catL_r, hx7, Bool.and_self]) rfl ?_
        refine r_goto (μ := mX11_help) (pc := 138) (tgt := 72) dX11_help_138 (by decide) ?_
        rw [if_neg (fun z => by omega)] at hst
        exact WP.L (by rw [hst, nI_succ]) (ih (i + 1) (by omega) (.int (nI (gcnt (lean s l i) q m))) rfl)
      · have h122 := mt (nI_leI (a := gcnt (lean s l i) q m) (b := H.2.2) (by omega) (by omega)).mpr h_122
        rw [if_pos ⟨h_99, by omega⟩] at hst
        refine r_iload (μ := mX11_help) (pc := 125) dX11_help_125 rfl ?_
        refine s_istore_n (μ := mX11_help) (pc := 127) (L2 := [_, _, _, _, _, _, _, _]) dX11_help_127 rfl (Nat.le_of_ble_eq_true rfl) (Nat.le_of_ble_eq_true rfl) (by simp only [List.all_cons, List.all_nil, catL_i, catL_r, hx7, Bool.and_self]) rfl ?_
        refine r_iload (μ := mX11_help) (pc := 128) dX11_help_128 rfl ?_
        refine s_istore_n (μ := mX11_help) (pc := 130) (L2 := [_, _, _, _, _, _, _, _]) dX11_help_130 rfl (Nat.le_of_ble_eq_true rfl) (Nat.le_of_ble_eq_true rfl) (by simp only [List.all_cons, List.all_nil, catL_i, catL_r, hx7, Bool.and_self]) rfl ?_
        refine r_iload (μ := mX11_help) (pc := 131) dX11_help_131 rfl ?_
        refine s_istore (μ := mX11_help) (pc := 133) (L2 := [_, _, _, _, _, _, _, _]) dX11_help_133 (Nat.le_of_ble_eq_true rfl) (Nat.le_of_ble_eq_true rfl) (by simp only [List.all_cons, List.all_nil, catL_i, catL_r, hx7, Bool.and_self]) rfl ?_
        refine s_iinc (μ := mX11_help) (pc := 135) (c := 1) (L2 := [_, _, _, _, _, _, _, _]) dX11_help_135 rfl ic_1 (Nat.le_of_ble_eq_true rfl) (by simp only [List.all_cons, List.all_nil, catL_i, catL_r, hx7, Bool.and_self]) rfl ?_
        refine r_goto (μ := mX11_help) (pc := 138) (tgt := 72) dX11_help_138 (by decide) ?_
        exact WP.L (by rw [hst, if_pos (nI_pos' (n := l) (by omega)), if_pos (nI_pos' (n := l) (by omega)), nI_succ]) (ih (i + 1) (by omega) (.int (nI (gcnt (lean s l i) q m))) rfl)

theorem lp_khL {d : Nat} {sh : List Sh} {mi : MI} {mr : MR} {Q : QT} (hF : SHC sh) (hB : CB mr) {s : Rw} {n m p q : Nat} (hR : RT sh mi mr 8 s n m p q) (hI : Inv s n m p q) (hw : mr 44 0 = some 8) (hS : WS mi 8 s n m q) {w : Int32} (ho : ∀ x6 x7 : Value, WP (d + 6) mX11_help 147 [.ref 0, .int w, .int (nI (hpR s q n m m).2.2), .int (if 0 ≤ (hpR s q n m m).1 then (hpR s q n m m).1 else NONEc), .int (if 0 ≤ (hpR s q n m m).1 then (hpR s q n m m).2.1 else NONEc), .int (nI m), x6, x7] [] sh mi mr 0 0 Q) : ∀ (k l : Nat), l + k = m → ∀ x6 x7 : Value, catL x6 = true → catL x7 = true → WP (d + 6) mX11_help 57 [.ref 0, .int w, .int (nI (hpR s q n m l).2.2), .int (if 0 ≤ (hpR s q n m l).1 then (hpR s q n m l).1 else NONEc), .int (if 0 ≤ (hpR s q n m l).1 then (hpR s q n m l).2.1 else NONEc), .int (nI l), x6, x7] [] sh mi mr 0 0 Q := by
  have hn10 := hI.n10; have hm8 := hI.m8; have hp6 := hI.p6; have hq14 := hI.q14
  have hT := TB.of hF hB (Or.inl rfl)
  intro k
  induction k with
  | zero =>
    intro l hk x6 x7 hx6 hx7
    obtain rfl : l = m := by omega
    refine r_iload (μ := mX11_help) (pc := 57) dX11_help_57 rfl ?_
    refine r_aload_n (μ := mX11_help) (pc := 59) dX11_help_59 rfl rfl rfl ?_
    refine r_getR (μ := mX11_help) (pc := 60) dX11_help_60 fpX11_36 rfl (hF _ _ rfl) (by decide) (hB _ _ _ rfl) ?_
    refine r_getI (μ := mX11_help) (pc := 63) dX11_help_63 fpX11_139 rfl (hF _ _ rfl) (by decide) ?_
    rw [hR.em]
    refine r_icmp_ge (μ := mX11_help) (pc := 66) (tgt := 147) dX11_help_66 (by decide) (fun h_66 => ?_) (fun h_66 => absurd (nI_le (Nat.le_refl _) (by omega)) h_66)
    exact ho x6 x7
  | succ k ih =>
    intro l hk x6 x7 hx6 hx7
    refine r_iload (μ := mX11_help) (pc := 57) dX11_help_57 rfl ?_
    refine r_aload_n (μ := mX11_help) (pc := 59) dX11_help_59 rfl rfl rfl ?_
    refine r_getR (μ := mX11_help) (pc := 60) dX11_help_60 fpX11_36 rfl (hF _ _ rfl) (by decide) (hB _ _ _ rfl) ?_
    refine r_getI (μ := mX11_help) (pc := 63) dX11_help_63 fpX11_139 rfl (hF _ _ rfl) (by decide) ?_
    rw [hR.em]
    refine r_icmp_ge (μ := mX11_help) (pc := 66) (tgt := 147) dX11_help_66 (by decide) (fun h_66 => absurd h_66 (nI_ge (by omega) (by omega))) (fun h_66 => ?_)
    refine r_iconst (μ := mX11_help) (pc := 69) (v := 0) dX11_help_69 ic_0 ?_
    refine s_istore (μ := mX11_help) (pc := 70) (L2 := [_, _, _, _, _, _, _, _]) dX11_help_70 (Nat.le_of_ble_eq_true rfl) (Nat.le_of_ble_eq_true rfl) (by simp only [List.all_cons, List.all_nil, catL_i, catL_r, hx6, hx7, Bool.and_self]) rfl ?_
    refine lp_khK hF hB hR hI hw hS (show l < m by omega) (fun y7 hy7 => ?_) n 0 (Nat.zero_add _) _ hx7
    refine s_iinc (μ := mX11_help) (pc := 141) (c := 1) (L2 := [_, _, _, _, _, _, _, _]) dX11_help_141 rfl ic_1 (Nat.le_of_ble_eq_true rfl) (by simp only [List.all_cons, List.all_nil, catL_i, catL_r, hy7, Bool.and_self]) rfl ?_
    refine r_goto (μ := mX11_help) (pc := 144) (tgt := 57) dX11_help_144 (by decide) ?_
    exact WP.L (by rw [nI_succ]; rfl) (ih (l + 1) (by omega) _ _ rfl hy7)

theorem k_help {d : Nat} {sh : List Sh} {mi : MI} {mr : MR} (hF : SHC sh) (hB : CB mr) {s : Rw} {n m p q : Nat} (hR : RT sh mi mr 8 s n m p q) (hI : Inv s n m p q) {w : Int32} (hw3 : inB w 0 2 = true) (hn0 : 0 < n) : CP (d + 7) mX11_help [.ref 0, .int w] sh mi mr 0 0 (WY sh mi mr (helpS s q n m w)) := by
  have hn10 := hI.n10; have hm8 := hI.m8; have hp6 := hI.p6; have hq14 := hI.q14
  have hT := TB.of hF hB (Or.inl rfl)
  refine CP.of (L := [_, _, _, _, _, _, _, _]) (by decide) rfl rfl (Nat.le_of_ble_eq_true rfl) ?_
  refine r_iload_n (μ := mX11_help) (pc := 0) dX11_help_0 rfl rfl ?_
  refine r_iconst (μ := mX11_help) (pc := 1) (v := 3) dX11_help_1 ic_3 ?_
  refine sP2 (μ := mX11_help) (pc := 2) (μ2 := mX11_within) dX11_help_2 lkX11_93 stX11_within mwX11_within (Nat.le_of_ble_eq_true rfl) (k_within (n := 3) rfl (by decide)) ?_
  rw [inR_B _ 2]
  refine r_if_ne (μ := mX11_help) (pc := 5) (tgt := 11) dX11_help_5 (by decide) (fun h_5 => ?_) (fun h_5 => absurd h_5 (b2i_ne hw3))
  refine r_aload_n (μ := mX11_help) (pc := 11) dX11_help_11 rfl rfl rfl ?_
  refine r_getR (μ := mX11_help) (pc := 12) dX11_help_12 fpX11_36 rfl (hF _ _ rfl) (by decide) (hB _ _ _ rfl) ?_
  refine r_getI (μ := mX11_help) (pc := 15) dX11_help_15 fpX11_98 rfl (hF _ _ rfl) (by decide) ?_
  refine r_if_ne (μ := mX11_help) (pc := 18) (tgt := 24) dX11_help_18 (by decide) (fun h_18 => ?_) (fun h_18 => absurd h_18 (by rw [hR.en]; exact nI_ne0 hn0 (by omega)))
  refine r_aload_n (μ := mX11_help) (pc := 24) dX11_help_24 rfl rfl rfl ?_
  refine r_getR (μ := mX11_help) (pc := 25) dX11_help_25 fpX11_55 rfl (hF _ _ rfl) (by decide) (hB _ _ _ rfl) ?_
  refine r_aload_n (μ := mX11_help) (pc := 28) dX11_help_28 rfl rfl rfl ?_
  refine r_getR (μ := mX11_help) (pc := 29) dX11_help_29 fpX11_36 rfl (hF _ _ rfl) (by decide) (hB _ _ _ rfl) ?_
  refine vW1 (μ := mX11_help) (pc := 32) (c0 := 10) (q0 := (RX10, TX10, 4)) (μ2 := mX10_look) dX11_help_32 (hF _ _ rfl) rfl lkX11_208 imX10_look seX10_X10_look_X10_look mwX10_look (Nat.le_of_ble_eq_true rfl) (k_look hF hB (Or.inl rfl) hR hI) (fun sh_32 mi_32 mr_32 h_32 => ?_)
  obtain ⟨rfl, rfl, hfr, hS⟩ := h_32
  have hw := lk_w (mr := mr) (b := 8)
  have hB0 := hB
  have hB := lk_B (b := 8) hB
  have hR0 := hR
  have hR := lk_R hR hfr
  have hT := TB.of hF hB (Or.inl rfl)
  have hWF := lk_F hfr
  refine r_aload_n (μ := mX11_help) (pc := 35) dX11_help_35 rfl rfl rfl ?_
  refine r_getR (μ := mX11_help) (pc := 36) dX11_help_36 fpX11_55 rfl (hF _ _ rfl) (by decide) (hB _ _ _ rfl) ?_
  refine r_iconst (μ := mX11_help) (pc := 39) (v := 0) dX11_help_39 ic_0 ?_
  refine vP1 (μ := mX11_help) (pc := 40) (c0 := 10) (q0 := (RX10, TX10, 4)) (μ2 := mX10_reachedFrom) dX11_help_40 (hF _ _ rfl) rfl lkX11_235 imX10_reachedFrom seX10_X10_reachedFrom_X10_reachedFrom mwX10_reachedFrom (Nat.le_of_ble_eq_true rfl) (k_reachedFrom hF hB (Or.inl rfl) hw hS (a := 0) hn0) ?_
  refine sP1 (μ := mX11_help) (pc := 43) (μ2 := mJ6_bitCount_0f7a4) dX11_help_43 lkX11_251 stJ6_bitCount_0f7a4 mwJ6_bitCount_0f7a4 (Nat.le_of_ble_eq_true rfl) k_bitCount ?_
  rw [show bcS (rbS s q m (-1) 0) = nI (gcnt s q m) from bc_bits _ (by decide)]
  refine s_istore_n (μ := mX11_help) (pc := 46) (L2 := [_, _, _, _, _, _, _, _]) dX11_help_46 rfl (Nat.le_of_ble_eq_true rfl) (Nat.le_of_ble_eq_true rfl) rfl rfl ?_
  refine r_ldc (μ := mX11_help) (pc := 47) dX11_help_47 ctX11_225 ?_
  refine s_istore_n (μ := mX11_help) (pc := 49) (L2 := [_, _, _, _, _, _, _, _]) dX11_help_49 rfl (Nat.le_of_ble_eq_true rfl) (Nat.le_of_ble_eq_true rfl) rfl rfl ?_
  refine r_ldc (μ := mX11_help) (pc := 50) dX11_help_50 ctX11_225 ?_
  refine s_istore (μ := mX11_help) (pc := 52) (L2 := [_, _, _, _, _, _, _, _]) dX11_help_52 (Nat.le_of_ble_eq_true rfl) (Nat.le_of_ble_eq_true rfl) rfl rfl ?_
  refine r_iconst (μ := mX11_help) (pc := 54) (v := 0) dX11_help_54 ic_0 ?_
  refine s_istore (μ := mX11_help) (pc := 55) (L2 := [_, _, _, _, _, _, _, _]) dX11_help_55 (Nat.le_of_ble_eq_true rfl) (Nat.le_of_ble_eq_true rfl) rfl rfl ?_
  refine lp_khL (d := d + 1) hF hB hR hI hw hS (fun x6 x7 => ?_) m 0 (Nat.zero_add _) _ _ rfl rfl
  have hok := hpR_ok (s := s) (q := q) (n := n) (m := m) m hm8
  refine r_iload_n (μ := mX11_help) (pc := 147) dX11_help_147 rfl rfl ?_
  refine r_ldc (μ := mX11_help) (pc := 148) dX11_help_148 ctX11_225 ?_
  refine r_icmp_ne (μ := mX11_help) (pc := 150) (tgt := 156) dX11_help_150 (by decide) (fun h_150 => ?_) (fun h_150 => ?_)
  · have h150 : 0 ≤ (hpR s q n m m).1 := by by_cases z : 0 ≤ (hpR s q n m m).1; (· exact z); (· rw [if_neg z] at h_150; exact absurd rfl h_150)
    refine r_iload_n (μ := mX11_help) (pc := 156) dX11_help_156 rfl rfl ?_
    refine r_if_ne (μ := mX11_help) (pc := 157) (tgt := 164) dX11_help_157 (by decide) (fun h_157 => ?_) (fun h_157 => ?_)
    · refine r_iload_n (μ := mX11_help) (pc := 164) dX11_help_164 rfl rfl ?_
      refine r_iconst (μ := mX11_help) (pc := 165) (v := 1) dX11_help_165 ic_1 ?_
      refine r_icmp_ne (μ := mX11_help) (pc := 166) (tgt := 174) dX11_help_166 (by decide) (fun h_166 => ?_) (fun h_166 => ?_)
      · refine r_iload_n (μ := mX11_help) (pc := 174) dX11_help_174 rfl rfl ?_
        exact r_iret (μ := mX11_help) (pc := 175) dX11_help_175 rfl rfl (WY_i (by unfold helpS; rw [if_pos h150]; first | (rw [if_pos h_157, if_pos h150]) | (rw [if_neg h_157, if_pos h_166, if_pos h150]) | (rw [if_neg h_157, if_neg h_166])) hWF)
      · refine r_iload (μ := mX11_help) (pc := 169) dX11_help_169 rfl ?_
        refine r_goto (μ := mX11_help) (pc := 171) (tgt := 175) dX11_help_171 (by decide) ?_
        exact r_iret (μ := mX11_help) (pc := 175) dX11_help_175 rfl rfl (WY_i (by unfold helpS; rw [if_pos h150]; first | (rw [if_pos h_157, if_pos h150]) | (rw [if_neg h_157, if_pos h_166, if_pos h150]) | (rw [if_neg h_157, if_neg h_166])) hWF)
    · refine r_iload_n (μ := mX11_help) (pc := 160) dX11_help_160 rfl rfl ?_
      refine r_goto (μ := mX11_help) (pc := 161) (tgt := 175) dX11_help_161 (by decide) ?_
      exact r_iret (μ := mX11_help) (pc := 175) dX11_help_175 rfl rfl (WY_i (by unfold helpS; rw [if_pos h150]; first | (rw [if_pos h_157, if_pos h150]) | (rw [if_neg h_157, if_pos h_166, if_pos h150]) | (rw [if_neg h_157, if_neg h_166])) hWF)
  · have h150 : ¬ 0 ≤ (hpR s q n m m).1 := fun z => by rw [if_pos z] at h_150; rw [h_150] at z; exact absurd z (by decide)
    refine r_ldc (μ := mX11_help) (pc := 153) dX11_help_153 ctX11_225 ?_
    exact r_iret (μ := mX11_help) (pc := 155) dX11_help_155 rfl rfl (WY_i (by unfold helpS; rw [if_neg h150]; rfl) hWF)

