def lnI (mi : MI) (b i : Nat) : MI := fun x => if x = 46 then (fun k => if k < i then mi (b + 6) k else mi 46 k) else mi x
theorem lnI_0 (mi : MI) (b : Nat) : lnI mi b 0 = mi := by
  funext x
  by_cases h : x = 46
  · subst h; simp [lnI]
  · simp [lnI, h]
theorem lnI_s (mi : MI) (b i : Nat) : upI (lnI mi b i) 46 i (mi (b + 6) i) = lnI mi b (i + 1) := by
  funext x
  by_cases h : x = 46
  · subst h
    funext k
    simp only [upI, lnI, upd, if_true]
    by_cases hk : k = i
    · subst hk; simp
    · have : (k < i + 1) = (k < i) := by apply propext; omega
      simp [hk, this]
  · simp [upI, lnI, h]
theorem lnI_ne {mi : MI} {b i x : Nat} (h : x ≠ 46) : lnI mi b i x = mi x := by simp [lnI, h]
theorem lnI_at {mi : MI} {b i k : Nat} (h : k < i) : lnI mi b i 46 k = mi (b + 6) k := by simp [lnI, h]
theorem lp_lean {d : Nat} {sh : List Sh} {mi : MI} {mr : MR} {Q : QT} (hF : SHC sh) (hB : CB mr) {b : Nat} (hTb : isT b) (hw : mr 44 0 = some b) {m : Nat} (hm : mi b 4 = nI m) (hm8 : m ≤ 8) (hq : Q none sh (lnI mi b m) mr) : ∀ (k i : Nat), i + k = m → WP (d + 1) mX10_leanAsNow 2 [.ref 44, .int (nI i)] [] sh (lnI mi b i) mr 0 0 Q := by
  have hT := TB.of hF hB hTb
  have hb44 : b + 11 < 44 := by unfold isT at hTb; omega
  intro k
  induction k with
  | zero =>
    intro i hk
    obtain rfl : i = m := by omega
    refine r_iload_n (μ := mX10_leanAsNow) (pc := 2) dX10_leanAsNow_2 rfl rfl ?_
    refine r_aload_n (μ := mX10_leanAsNow) (pc := 3) dX10_leanAsNow_3 rfl rfl rfl ?_
    refine r_getR (μ := mX10_leanAsNow) (pc := 4) dX10_leanAsNow_4 fpX10_21 rfl (hF _ _ rfl) (by decide) hw ?_
    refine r_getI (μ := mX10_leanAsNow) (pc := 7) dX10_leanAsNow_7 fpX10_25 rfl (hT.1 0 _ rfl) (by decide) ?_
    rw [lnI_ne (by omega), hm]
    refine r_icmp_ge (μ := mX10_leanAsNow) (pc := 10) (tgt := 34) dX10_leanAsNow_10 (by decide) (fun h_10 => ?_) (fun h_10 => absurd (nI_le (Nat.le_refl _) (by omega)) h_10)
    exact r_vret (μ := mX10_leanAsNow) (pc := 34) dX10_leanAsNow_34 rfl hq
  | succ k ih =>
    intro i hk
    refine r_iload_n (μ := mX10_leanAsNow) (pc := 2) dX10_leanAsNow_2 rfl rfl ?_
    refine r_aload_n (μ := mX10_leanAsNow) (pc := 3) dX10_leanAsNow_3 rfl rfl rfl ?_
    refine r_getR (μ := mX10_leanAsNow) (pc := 4) dX10_leanAsNow_4 fpX10_21 rfl (hF _ _ rfl) (by decide) hw ?_
    refine r_getI (μ := mX10_leanAsNow) (pc := 7) dX10_leanAsNow_7 fpX10_25 rfl (hT.1 0 _ rfl) (by decide) ?_
    rw [lnI_ne (by omega), hm]
    refine r_icmp_ge (μ := mX10_leanAsNow) (pc := 10) (tgt := 34) dX10_leanAsNow_10 (by decide) (fun h_10 => absurd h_10 (nI_ge (by omega) (by omega))) (fun h_10 => ?_)
    refine r_aload_n (μ := mX10_leanAsNow) (pc := 13) dX10_leanAsNow_13 rfl rfl rfl ?_
    refine r_getR (μ := mX10_leanAsNow) (pc := 14) dX10_leanAsNow_14 fpX10_15 rfl (hF _ _ rfl) (by decide) (hB _ _ _ rfl) ?_
    refine r_iload_n (μ := mX10_leanAsNow) (pc := 17) dX10_leanAsNow_17 rfl rfl ?_
    refine r_aload_n (μ := mX10_leanAsNow) (pc := 18) dX10_leanAsNow_18 rfl rfl rfl ?_
    refine r_getR (μ := mX10_leanAsNow) (pc := 19) dX10_leanAsNow_19 fpX10_21 rfl (hF _ _ rfl) (by decide) hw ?_
    refine r_getR (μ := mX10_leanAsNow) (pc := 22) dX10_leanAsNow_22 fpX10_38 rfl (hT.1 0 _ rfl) (by decide) (hT.2.1 _ _ rfl) ?_
    refine r_iload_n (μ := mX10_leanAsNow) (pc := 25) dX10_leanAsNow_25 rfl rfl ?_
    refine r_iaload (μ := mX10_leanAsNow) (pc := 26) (j := i) dX10_leanAsNow_26 (hT.1 _ _ rfl) rfl (by omega) (by decide) ?_
    rw [lnI_ne (by omega)]
    refine r_iastore (μ := mX10_leanAsNow) (pc := 27) (j := i) dX10_leanAsNow_27 (hF _ _ rfl) rfl (by omega) (by decide) ?_
    rw [lnI_s]
    refine s_iinc (μ := mX10_leanAsNow) (pc := 28) (c := 1) (L2 := [_, _]) dX10_leanAsNow_28 rfl ic_1 (Nat.le_of_ble_eq_true rfl) rfl rfl ?_
    refine r_goto (μ := mX10_leanAsNow) (pc := 31) (tgt := 2) dX10_leanAsNow_31 (by decide) ?_
    exact WP.L (by rw [nI_succ]) (ih (i + 1) (by omega))

theorem k_leanAsNow {d : Nat} {sh : List Sh} {mi : MI} {mr : MR} (hF : SHC sh) (hB : CB mr) {b : Nat} (hTb : isT b) (hw : mr 44 0 = some b) {m : Nat} (hm : mi b 4 = nI m) (hm8 : m ≤ 8) : CP (d + 1) mX10_leanAsNow [.ref 44] sh mi mr 0 0 (PV sh mr (fun mi2 => mi2 = lnI mi b m)) := by
  refine CP.of (L := [_, _]) (by decide) rfl rfl (Nat.le_of_ble_eq_true rfl) ?_
  refine r_iconst (μ := mX10_leanAsNow) (pc := 0) (v := 0) dX10_leanAsNow_0 ic_0 ?_
  refine s_istore_n (μ := mX10_leanAsNow) (pc := 1) (L2 := [_, _]) dX10_leanAsNow_1 rfl (Nat.le_of_ble_eq_true rfl) (Nat.le_of_ble_eq_true rfl) rfl rfl ?_
  have h := lp_lean (d := d) hF hB hTb hw hm hm8 (Q := PV sh mr (fun mi2 => mi2 = lnI mi b m)) (PV_i rfl) m 0 (Nat.zero_add _)
  rw [lnI_0] at h
  exact h

theorem RT.mr {sh : List Sh} {mi : MI} {mr mr2 : MR} {b : Nat} {s : Rw} {n m p q : Nat} (h : RT sh mi mr b s n m p q) (h2 : ∀ x, x = b + 9 ∨ 76 ≤ x → mr2 x = mr x) : RT sh mi mr2 b s n m p q := by
  obtain ⟨w1, w2, w3, w4, w5, w6, w7⟩ := h
  refine ⟨w1, w2, w3, w4, w5, w6, fun t ht => ?_⟩
  obtain ⟨a, a1, c, kt, ⟨z1, z2⟩, e2, e3, e4, e5⟩ := w7 t ht
  exact ⟨a, by rw [h2 _ (Or.inl rfl)]; exact a1, c, kt, ⟨z1, z2⟩, e2, by rw [h2 _ (Or.inr z1)]; exact e3, e4, e5⟩
theorem WS.of {sh : List Sh} {mi mi2 : MI} {mr : MR} {b : Nat} {s : Rw} {n m p q : Nat} (hR : RT sh mi mr b s n m p q) (hI : Inv s n m p q) (hb : b + 11 < 44) (h1 : ∀ l, l < m → mi 45 l = bitsB (rchS s q l) n) (h2 : mi2 = lnI mi b m) : WS mi2 b s n m q := by
  subst h2
  refine ⟨by rw [lnI_ne (by omega)]; exact ⟨hR.en, hR.em⟩, fun l hl => by rw [lnI_ne (by decide)]; exact h1 l hl, fun l hl => ?_, fun l hl => ?_, fun l hl => ⟨hI.fn hl, hI.tn hl⟩, hI.n10, hI.m8⟩
  · rw [lnI_at hl, hR.tp hl]; exact hI.t hl
  · rw [lnI_ne (by omega), hR.ft hl]; exact hI.f hl

theorem lp_look {d : Nat} {sh : List Sh} {mi : MI} {mr : MR} (hF : SHC sh) (hB : CB mr) {b : Nat} (hTb : isT b) {s : Rw} {n m p q : Nat} (hR : RT sh mi mr b s n m p q) (hI : Inv s n m p q) {Q : QT} (hq : ∀ mi2, (∀ x, x ≠ 45 → x ≠ b + 11 → mi2 x = mi x) → (∀ l, l < m → mi2 45 l = bitsB (rchS s q l) n) → Q none sh (lnI mi2 b m) (upR mr 44 0 (some b))) :
    ∀ (k i : Nat), i + k = m → ∀ mi2, (∀ x, x ≠ 45 → x ≠ b + 11 → mi2 x = mi x) → (∀ l, l < i → mi2 45 l = bitsB (rchS s q l) n) → WP (d + 6) mX10_look 7 [.ref 44, .ref b, .int (nI i)] [] sh mi2 (upR mr 44 0 (some b)) 0 0 Q := by
  have hn10 := hI.n10; have hm8 := hI.m8
  have hb44 : b + 11 < 44 := by unfold isT at hTb; omega
  have hB2 : CB (upR mr 44 0 (some b)) := fun a k c h => by by_cases e : a = 44; (· subst e; by_cases e2 : k = 0; (· subst e2; cases h); (· show va_up (mr 44) 0 (some b) k = some c; unfold va_up; rw [if_neg e2]; exact hB 44 k c h)); (· rw [upR_ne e]; exact hB a k c h)
  have hT := TB.of hF hB2 hTb
  have hw : (upR mr 44 0 (some b)) 44 0 = some b := by rw [upR_self]; rfl
  have hR2 : RT sh mi (upR mr 44 0 (some b)) b s n m p q := hR.mr (fun x hx => upR_ne (by omega))
  intro k
  induction k with
  | zero =>
    intro i hk mi2 hF2 h45
    obtain rfl : i = m := by omega
    have hRm := hR2.fr (mi2 := mi2) (fun x h1 h2 => hF2 x (by omega) (by omega)) (fun x h1 => hF2 x (by omega) (by omega))
    refine r_iload_n (μ := mX10_look) (pc := 7) dX10_look_7 rfl rfl ?_
    refine r_aload_n (μ := mX10_look) (pc := 8) dX10_look_8 rfl rfl rfl ?_
    refine r_getI (μ := mX10_look) (pc := 9) dX10_look_9 fpX10_25 rfl (hT.1 0 _ rfl) (by decide) ?_
    rw [hRm.em]
    refine r_icmp_ge (μ := mX10_look) (pc := 12) (tgt := 32) dX10_look_12 (by decide) (fun h_12 => ?_) (fun h_12 => absurd (nI_le (Nat.le_refl _) (by omega)) h_12)
    refine r_aload_n (μ := mX10_look) (pc := 32) dX10_look_32 rfl rfl rfl ?_
    refine vV0 (μ := mX10_look) (pc := 33) (c0 := 10) (q0 := (RX10, TX10, 4)) (μ2 := mX10_leanAsNow) dX10_look_33 (hF _ _ rfl) rfl lkX10_35 imX10_leanAsNow seX10_X10_leanAsNow_X10_leanAsNow mwX10_leanAsNow (Nat.le_of_ble_eq_true rfl) (k_leanAsNow hF hB2 hTb hw hRm.em hm8) (fun mi_33 h_33 => ?_)
    subst h_33
    exact r_vret (μ := mX10_look) (pc := 36) dX10_look_36 rfl (hq mi2 hF2 h45)
  | succ k ih =>
    intro i hk mi2 hF2 h45
    have hRm := hR2.fr (mi2 := mi2) (fun x h1 h2 => hF2 x (by omega) (by omega)) (fun x h1 => hF2 x (by omega) (by omega))
    refine r_iload_n (μ := mX10_look) (pc := 7) dX10_look_7 rfl rfl ?_
    refine r_aload_n (μ := mX10_look) (pc := 8) dX10_look_8 rfl rfl rfl ?_
    refine r_getI (μ := mX10_look) (pc := 9) dX10_look_9 fpX10_25 rfl (hT.1 0 _ rfl) (by decide) ?_
    rw [hRm.em]
    refine r_icmp_ge (μ := mX10_look) (pc := 12) (tgt := 32) dX10_look_12 (by decide) (fun h_12 => absurd h_12 (nI_ge (by omega) (by omega))) (fun h_12 => ?_)
    refine r_aload_n (μ := mX10_look) (pc := 15) dX10_look_15 rfl rfl rfl ?_
    refine r_getR (μ := mX10_look) (pc := 16) dX10_look_16 fpX10_9 rfl (hF _ _ rfl) (by decide) (hB2 _ _ _ rfl) ?_
    refine r_iload_n (μ := mX10_look) (pc := 19) dX10_look_19 rfl rfl ?_
    refine r_aload_n (μ := mX10_look) (pc := 20) dX10_look_20 rfl rfl rfl ?_
    refine r_iload_n (μ := mX10_look) (pc := 21) dX10_look_21 rfl rfl ?_
    refine vX1 (μ := mX10_look) (pc := 22) (c0 := 9) (q0 := (RX9, TX9, 20)) (μ2 := mX9_ledgesInReach) dX10_look_22 (hT.1 0 _ rfl) rfl lkX10_31 imX9_ledgesInReach seX9_X9_ledgesInReach_X9_ledgesInReach mwX9_ledgesInReach (Nat.le_of_ble_eq_true rfl) (k_ledgesInReach hT (by omega) hRm hI (show i < m by omega)) (fun r_22 mi_22 h_22 => ?_)
    obtain ⟨rfl, h22⟩ := h_22
    refine r_iastore (μ := mX10_look) (pc := 25) (j := i) dX10_look_25 (hF _ _ rfl) rfl (by omega) (by decide) ?_
    refine s_iinc (μ := mX10_look) (pc := 26) (c := 1) (L2 := [_, _, _]) dX10_look_26 rfl ic_1 (Nat.le_of_ble_eq_true rfl) rfl rfl ?_
    refine r_goto (μ := mX10_look) (pc := 29) (tgt := 7) dX10_look_29 (by decide) ?_
    refine WP.L (by rw [nI_succ]) (ih (i + 1) (by omega) _ (fun x h1 h2 => by rw [upI_ne h1, h22 x h2]; exact hF2 x h1 h2) (fun l hl => ?_))
    by_cases e : l = i
    · subst e; rw [up_eq]
    · rw [up_ne e, h22 45 (by omega)]; exact h45 l (by omega)

theorem k_look {d : Nat} {sh : List Sh} {mi : MI} {mr : MR} (hF : SHC sh) (hB : CB mr) {b : Nat} (hTb : isT b) {s : Rw} {n m p q : Nat} (hR : RT sh mi mr b s n m p q) (hI : Inv s n m p q) : CP (d + 6) mX10_look [.ref 44, .ref b] sh mi mr 0 0 (PW (fun sh2 mi2 mr2 => sh2 = sh ∧ mr2 = (upR mr 44 0 (some b)) ∧ (∀ x, x ≠ 45 → x ≠ 46 → x ≠ b + 11 → mi2 x = mi x) ∧ WS mi2 b s n m q)) := by
  have hn10 := hI.n10; have hm8 := hI.m8
  have hb44 : b + 11 < 44 := by unfold isT at hTb; omega
  have hB2 : CB (upR mr 44 0 (some b)) := fun a k c h => by by_cases e : a = 44; (· subst e; by_cases e2 : k = 0; (· subst e2; cases h); (· show va_up (mr 44) 0 (some b) k = some c; unfold va_up; rw [if_neg e2]; exact hB 44 k c h)); (· rw [upR_ne e]; exact hB a k c h)
  have hT := TB.of hF hB2 hTb
  have hw : (upR mr 44 0 (some b)) 44 0 = some b := by rw [upR_self]; rfl
  have hR2 : RT sh mi (upR mr 44 0 (some b)) b s n m p q := hR.mr (fun x hx => upR_ne (by omega))
  refine CP.of (L := [_, _, _]) (by decide) rfl rfl (Nat.le_of_ble_eq_true rfl) ?_
  refine r_aload_n (μ := mX10_look) (pc := 0) dX10_look_0 rfl rfl rfl ?_
  refine r_aload_n (μ := mX10_look) (pc := 1) dX10_look_1 rfl rfl rfl ?_
  refine r_putR (μ := mX10_look) (pc := 2) dX10_look_2 fwX10_21 (hF _ _ rfl) (by decide) rfl ?_
  refine r_iconst (μ := mX10_look) (pc := 5) (v := 0) dX10_look_5 ic_0 ?_
  refine s_istore_n (μ := mX10_look) (pc := 6) (L2 := [_, _, _]) dX10_look_6 rfl (Nat.le_of_ble_eq_true rfl) (Nat.le_of_ble_eq_true rfl) rfl rfl ?_
  exact lp_look hF hB hTb hR hI (fun mi2 h1 h2 => PW_i ⟨rfl, rfl, fun x a1 a2 a3 => by rw [lnI_ne a2]; exact h1 x a1 a3, WS.of (hR2.fr (fun x g1 g2 => h1 x (by omega) (by omega)) (fun x g1 => h1 x (by omega) (by omega))) hI hb44 h2 rfl⟩) m 0 (Nat.zero_add _) mi (fun _ _ _ => rfl) (fun l hl => absurd hl (Nat.not_lt_zero _))

theorem lp_stnd {d : Nat} {sh : List Sh} {mi : MI} {mr : MR} {Q : QT} (hF : SHC sh) (hB : CB mr) {b : Nat} (hTb : isT b) (hw : mr 44 0 = some b) {s : Rw} {n m q : Nat} (hS : WS mi b s n m q) (hq : Q (some (.int (bitsB (stdS s q) m))) sh mi mr) : ∀ (k i : Nat), i + k = m → WP (d + 1) mX10_standing 4 [.ref 44, .int (bitsB (stdS s q) i), .int (nI i)] [] sh mi mr 0 0 Q := by
  have hT := TB.of hF hB hTb
  have hb44 : b + 11 < 44 := by unfold isT at hTb; omega
  have hn10 := hS.n10; have hm8 := hS.m8
  intro k
  induction k with
  | zero =>
    intro i hk
    obtain rfl : i = m := by omega
    refine r_iload_n (μ := mX10_standing) (pc := 4) dX10_standing_4 rfl rfl ?_
    refine r_aload_n (μ := mX10_standing) (pc := 5) dX10_standing_5 rfl rfl rfl ?_
    refine r_getR (μ := mX10_standing) (pc := 6) dX10_standing_6 fpX10_21 rfl (hF _ _ rfl) (by decide) hw ?_
    refine r_getI (μ := mX10_standing) (pc := 9) dX10_standing_9 fpX10_25 rfl (hT.1 0 _ rfl) (by decide) ?_
    rw [hS.em]
    refine r_icmp_ge (μ := mX10_standing) (pc := 12) (tgt := 45) dX10_standing_12 (by decide) (fun h_12 => ?_) (fun h_12 => absurd (nI_le (Nat.le_refl _) (by omega)) h_12)
    refine r_iload_n (μ := mX10_standing) (pc := 45) dX10_standing_45 rfl rfl ?_
    exact r_iret (μ := mX10_standing) (pc := 46) dX10_standing_46 rfl rfl hq
  | succ k ih =>
    intro i hk
    have hi : i < m := by omega
    have htn := hS.tn hi
    refine r_iload_n (μ := mX10_standing) (pc := 4) dX10_standing_4 rfl rfl ?_
    refine r_aload_n (μ := mX10_standing) (pc := 5) dX10_standing_5 rfl rfl rfl ?_
    refine r_getR (μ := mX10_standing) (pc := 6) dX10_standing_6 fpX10_21 rfl (hF _ _ rfl) (by decide) hw ?_
    refine r_getI (μ := mX10_standing) (pc := 9) dX10_standing_9 fpX10_25 rfl (hT.1 0 _ rfl) (by decide) ?_
    rw [hS.em]
    refine r_icmp_ge (μ := mX10_standing) (pc := 12) (tgt := 45) dX10_standing_12 (by decide) (fun h_12 => absurd h_12 (nI_ge (by omega) (by omega))) (fun h_12 => ?_)
    refine r_aload_n (μ := mX10_standing) (pc := 15) dX10_standing_15 rfl rfl rfl ?_
    refine r_getR (μ := mX10_standing) (pc := 16) dX10_standing_16 fpX10_9 rfl (hF _ _ rfl) (by decide) (hB _ _ _ rfl) ?_
    refine r_iload_n (μ := mX10_standing) (pc := 19) dX10_standing_19 rfl rfl ?_
    refine r_iaload (μ := mX10_standing) (pc := 20) (j := i) dX10_standing_20 (hF _ _ rfl) rfl (by omega) (by decide) ?_
    rw [hS.r hi]
    refine r_aload_n (μ := mX10_standing) (pc := 21) dX10_standing_21 rfl rfl rfl ?_
    refine r_getR (μ := mX10_standing) (pc := 22) dX10_standing_22 fpX10_15 rfl (hF _ _ rfl) (by decide) (hB _ _ _ rfl) ?_
    refine r_iload_n (μ := mX10_standing) (pc := 25) dX10_standing_25 rfl rfl ?_
    refine r_iaload (μ := mX10_standing) (pc := 26) (j := i) dX10_standing_26 (hF _ _ rfl) rfl (by omega) (by decide) ?_
    rw [hS.t hi]
    refine snP2 (μ := mX10_standing) (pc := 27) (μ2 := mX11_has) dX10_standing_27 lkX10_41 stX11_has mwX11_has (Nat.le_of_ble_eq_true rfl) (k_has rfl (by omega)) ?_
    refine r_if_eq (μ := mX10_standing) (pc := 30) (tgt := 39) dX10_standing_30 (by decide) (fun h_30 => ?_) (fun h_30 => ?_)
    · have h_30 := b2i_0 h_30
      rw [bt_bits _ n (by omega) _ (by omega), decide_eq_true htn, Bool.true_and] at h_30
      have h30 : stdS s q i = false := h_30
      refine s_iinc (μ := mX10_standing) (pc := 39) (c := 1) (L2 := [_, _, _]) dX10_standing_39 rfl ic_1 (Nat.le_of_ble_eq_true rfl) rfl rfl ?_
      refine r_goto (μ := mX10_standing) (pc := 42) (tgt := 4) dX10_standing_42 (by decide) ?_
      exact WP.L (by simp [bitsB, nI_succ, h30]) (ih (i + 1) (by omega))
    · have h_30 := b2i_1 h_30
      rw [bt_bits _ n (by omega) _ (by omega), decide_eq_true htn, Bool.true_and] at h_30
      have h30 : stdS s q i = true := h_30
      refine r_iload_n (μ := mX10_standing) (pc := 33) dX10_standing_33 rfl rfl ?_
      refine r_iconst (μ := mX10_standing) (pc := 34) (v := 1) dX10_standing_34 ic_1 ?_
      refine r_iload_n (μ := mX10_standing) (pc := 35) dX10_standing_35 rfl rfl ?_
      refine r_ishl (μ := mX10_standing) (pc := 36) dX10_standing_36 ?_
      refine r_ior (μ := mX10_standing) (pc := 37) dX10_standing_37 ?_
      refine s_istore_n (μ := mX10_standing) (pc := 38) (L2 := [_, _, _]) dX10_standing_38 rfl (Nat.le_of_ble_eq_true rfl) (Nat.le_of_ble_eq_true rfl) rfl rfl ?_
      refine s_iinc (μ := mX10_standing) (pc := 39) (c := 1) (L2 := [_, _, _]) dX10_standing_39 rfl ic_1 (Nat.le_of_ble_eq_true rfl) rfl rfl ?_
      refine r_goto (μ := mX10_standing) (pc := 42) (tgt := 4) dX10_standing_42 (by decide) ?_
      exact WP.L (by simp [bitsB, nI_succ, h30]) (ih (i + 1) (by omega))

theorem k_standing {d : Nat} {sh : List Sh} {mi : MI} {mr : MR} (hF : SHC sh) (hB : CB mr) {b : Nat} (hTb : isT b) (hw : mr 44 0 = some b) {s : Rw} {n m q : Nat} (hS : WS mi b s n m q) : CP (d + 1) mX10_standing [.ref 44] sh mi mr 0 0 (PI (bitsB (stdS s q) m) sh mi mr) := by
  refine CP.of (L := [_, _, _]) (by decide) rfl rfl (Nat.le_of_ble_eq_true rfl) ?_
  refine r_iconst (μ := mX10_standing) (pc := 0) (v := 0) dX10_standing_0 ic_0 ?_
  refine s_istore_n (μ := mX10_standing) (pc := 1) (L2 := [_, _, _]) dX10_standing_1 rfl (Nat.le_of_ble_eq_true rfl) (Nat.le_of_ble_eq_true rfl) rfl rfl ?_
  refine r_iconst (μ := mX10_standing) (pc := 2) (v := 0) dX10_standing_2 ic_0 ?_
  refine s_istore_n (μ := mX10_standing) (pc := 3) (L2 := [_, _, _]) dX10_standing_3 rfl (Nat.le_of_ble_eq_true rfl) (Nat.le_of_ble_eq_true rfl) rfl rfl ?_
  exact lp_stnd hF hB hTb hw hS (PI_i rfl) m 0 (Nat.zero_add _)

/-- the ladders that stand and are allowed -/
def alE (s : Rw) (q : Nat) (al : Int32) : Nat → Bool := fun l => stdS s q l && bt al l
theorem al_b {s : Rw} {q m l : Nat} {al : Int32} (hm : m ≤ 8) (hl : l < m) : bt (bitsB (stdS s q) m &&& al) l = alE s q al l := by
  rw [b_and, bt_std hm hl]
  rfl

theorem lp_rkI {d : Nat} {sh : List Sh} {mi : MI} {mr : MR} {Q : QT} (hF : SHC sh) (hB : CB mr) {b : Nat} (hTb : isT b) (hw : mr 44 0 = some b) {s : Rw} {n m q : Nat} (hS : WS mi b s n m q) {a : Nat} {al : Int32} {P : Nat → Bool} {rd : Int32} (ho : ∀ x8 : Value, catL x8 = true → WP (d + 2) mX10_reachedBy 100 [.ref 44, .int (nI a), .int al, .int (bitsB (stdS s q) m &&& al), .int (bitsB (pasR (alE s q al) (fN s) (tN s) P m) 10), .int rd, .int (bitsB P 10), .int (nI m), x8] [] sh mi mr 0 0 Q) :
    ∀ (k i : Nat), i + k = m → ∀ x8 : Value, catL x8 = true → WP (d + 2) mX10_reachedBy 34 [.ref 44, .int (nI a), .int al, .int (bitsB (stdS s q) m &&& al), .int (bitsB (pasR (alE s q al) (fN s) (tN s) P i) 10), .int rd, .int (bitsB P 10), .int (nI i), x8] [] sh mi mr 0 0 Q := by
  have hT := TB.of hF hB hTb
  have hb44 : b + 11 < 44 := by unfold isT at hTb; omega
  have hn10 := hS.n10; have hm8 := hS.m8
  intro k
  induction k with
  | zero =>
    intro i hk x8 hx8
    obtain rfl : i = m := by omega
    refine r_iload (μ := mX10_reachedBy) (pc := 34) dX10_reachedBy_34 rfl ?_
    refine r_aload_n (μ := mX10_reachedBy) (pc := 36) dX10_reachedBy_36 rfl rfl rfl ?_
    refine r_getR (μ := mX10_reachedBy) (pc := 37) dX10_reachedBy_37 fpX10_21 rfl (hF _ _ rfl) (by decide) hw ?_
    refine r_getI (μ := mX10_reachedBy) (pc := 40) dX10_reachedBy_40 fpX10_25 rfl (hT.1 0 _ rfl) (by decide) ?_
    rw [hS.em]
    refine r_icmp_ge (μ := mX10_reachedBy) (pc := 43) (tgt := 100) dX10_reachedBy_43 (by decide) (fun h_43 => ?_) (fun h_43 => absurd (nI_le (Nat.le_refl _) (by omega)) h_43)
    exact ho x8 hx8
  | succ k ih =>
    intro i hk x8 hx8
    have hi : i < m := by omega
    have hf := hS.fn hi
    have ht := hS.tn hi
    refine r_iload (μ := mX10_reachedBy) (pc := 34) dX10_reachedBy_34 rfl ?_
    refine r_aload_n (μ := mX10_reachedBy) (pc := 36) dX10_reachedBy_36 rfl rfl rfl ?_
    refine r_getR (μ := mX10_reachedBy) (pc := 37) dX10_reachedBy_37 fpX10_21 rfl (hF _ _ rfl) (by decide) hw ?_
    refine r_getI (μ := mX10_reachedBy) (pc := 40) dX10_reachedBy_40 fpX10_25 rfl (hT.1 0 _ rfl) (by decide) ?_
    rw [hS.em]
    refine r_icmp_ge (μ := mX10_reachedBy) (pc := 43) (tgt := 100) dX10_reachedBy_43 (by decide) (fun h_43 => absurd h_43 (nI_ge (by omega) (by omega))) (fun h_43 => ?_)
    refine r_iconst (μ := mX10_reachedBy) (pc := 46) (v := 1) dX10_reachedBy_46 ic_1 ?_
    refine r_aload_n (μ := mX10_reachedBy) (pc := 47) dX10_reachedBy_47 rfl rfl rfl ?_
    refine r_getR (μ := mX10_reachedBy) (pc := 48) dX10_reachedBy_48 fpX10_21 rfl (hF _ _ rfl) (by decide) hw ?_
    refine r_getR (μ := mX10_reachedBy) (pc := 51) dX10_reachedBy_51 fpX10_53 rfl (hT.1 0 _ rfl) (by decide) (hT.2.1 _ _ rfl) ?_
    refine r_iload (μ := mX10_reachedBy) (pc := 54) dX10_reachedBy_54 rfl ?_
    refine r_iaload (μ := mX10_reachedBy) (pc := 56) (j := i) dX10_reachedBy_56 (hT.1 _ _ rfl) rfl (by omega) (by decide) ?_
    rw [hS.f hi]
    refine r_ishl (μ := mX10_reachedBy) (pc := 57) dX10_reachedBy_57 ?_
    refine r_iconst (μ := mX10_reachedBy) (pc := 58) (v := 1) dX10_reachedBy_58 ic_1 ?_
    refine r_aload_n (μ := mX10_reachedBy) (pc := 59) dX10_reachedBy_59 rfl rfl rfl ?_
    refine r_getR (μ := mX10_reachedBy) (pc := 60) dX10_reachedBy_60 fpX10_15 rfl (hF _ _ rfl) (by decide) (hB _ _ _ rfl) ?_
    refine r_iload (μ := mX10_reachedBy) (pc := 63) dX10_reachedBy_63 rfl ?_
    refine r_iaload (μ := mX10_reachedBy) (pc := 65) (j := i) dX10_reachedBy_65 (hF _ _ rfl) rfl (by omega) (by decide) ?_
    rw [hS.t hi]
    refine r_ishl (μ := mX10_reachedBy) (pc := 66) dX10_reachedBy_66 ?_
    refine r_ior (μ := mX10_reachedBy) (pc := 67) dX10_reachedBy_67 ?_
    refine s_istore (μ := mX10_reachedBy) (pc := 68) (L2 := [_, _, _, _, _, _, _, _, _]) dX10_reachedBy_68 (Nat.le_of_ble_eq_true rfl) (Nat.le_of_ble_eq_true rfl) (by simp only [List.all_cons, List.all_nil, catL_i, catL_r, hx8, Bool.and_self]) rfl ?_
    refine r_iload_n (μ := mX10_reachedBy) (pc := 70) dX10_reachedBy_70 rfl rfl ?_
    refine r_iload (μ := mX10_reachedBy) (pc := 71) dX10_reachedBy_71 rfl ?_
    refine snP2 (μ := mX10_reachedBy) (pc := 73) (μ2 := mX11_has) dX10_reachedBy_73 lkX10_41 stX11_has mwX11_has (Nat.le_of_ble_eq_true rfl) (k_has rfl (by omega)) ?_
    refine r_if_eq (μ := mX10_reachedBy) (pc := 76) (tgt := 94) dX10_reachedBy_76 (by decide) (fun h_76 => ?_) (fun h_76 => ?_)
    · have h_76 := b2i_0 h_76
      rw [al_b hm8 hi] at h_76
      refine s_iinc (μ := mX10_reachedBy) (pc := 94) (c := 1) (L2 := [_, _, _, _, _, _, _, _, _]) dX10_reachedBy_94 rfl ic_1 (Nat.le_of_ble_eq_true rfl) (by simp only [List.all_cons, List.all_nil, catL_i, catL_r, hx8, Bool.and_self]) rfl ?_
      refine r_goto (μ := mX10_reachedBy) (pc := 97) (tgt := 34) dX10_reachedBy_97 (by decide) ?_
      exact WP.L (by rw [nI_succ, ← rb_no (Or.inl h_76), or_0]) (ih (i + 1) (by omega) _ rfl)
    · have h_76 := b2i_1 h_76
      rw [al_b hm8 hi] at h_76
      refine r_iload (μ := mX10_reachedBy) (pc := 79) dX10_reachedBy_79 rfl ?_
      refine r_iload (μ := mX10_reachedBy) (pc := 81) dX10_reachedBy_81 rfl ?_
      refine r_iand (μ := mX10_reachedBy) (pc := 83) dX10_reachedBy_83 ?_
      refine r_if_eq (μ := mX10_reachedBy) (pc := 84) (tgt := 94) dX10_reachedBy_84 (by decide) (fun h_84 => ?_) (fun h_84 => ?_)
      · have h84 := (bits_and (by omega) (by omega) (by decide)).mp h_84
        refine s_iinc (μ := mX10_reachedBy) (pc := 94) (c := 1) (L2 := [_, _, _, _, _, _, _, _, _]) dX10_reachedBy_94 rfl ic_1 (Nat.le_of_ble_eq_true rfl) (by simp only [List.all_cons, List.all_nil, catL_i, catL_r, hx8, Bool.and_self]) rfl ?_
        refine r_goto (μ := mX10_reachedBy) (pc := 97) (tgt := 34) dX10_reachedBy_97 (by decide) ?_
        exact WP.L (by rw [nI_succ, ← rb_no (Or.inr h84), or_0]) (ih (i + 1) (by omega) _ rfl)
      · refine r_iload (μ := mX10_reachedBy) (pc := 87) dX10_reachedBy_87 rfl ?_
        refine r_iload (μ := mX10_reachedBy) (pc := 89) dX10_reachedBy_89 rfl ?_
        refine r_ior (μ := mX10_reachedBy) (pc := 91) dX10_reachedBy_91 ?_
        refine s_istore (μ := mX10_reachedBy) (pc := 92) (L2 := [_, _, _, _, _, _, _, _, _]) dX10_reachedBy_92 (Nat.le_of_ble_eq_true rfl) (Nat.le_of_ble_eq_true rfl) (by simp only [List.all_cons, List.all_nil, catL_i, catL_r, hx8, Bool.and_self]) rfl ?_
        refine s_iinc (μ := mX10_reachedBy) (pc := 94) (c := 1) (L2 := [_, _, _, _, _, _, _, _, _]) dX10_reachedBy_94 rfl ic_1 (Nat.le_of_ble_eq_true rfl) (by simp only [List.all_cons, List.all_nil, catL_i, catL_r, hx8, Bool.and_self]) rfl ?_
        refine r_goto (μ := mX10_reachedBy) (pc := 97) (tgt := 34) dX10_reachedBy_97 (by decide) ?_
        exact WP.L (by rw [nI_succ, ← rb_yes (by omega) (by omega) h_76 (fun z => h_84 ((bits_and (by omega) (by omega) (by decide)).mpr z))]) (ih (i + 1) (by omega) _ rfl)

theorem lp_rkO {d : Nat} {sh : List Sh} {mi : MI} {mr : MR} {Q : QT} (hF : SHC sh) (hB : CB mr) {b : Nat} (hTb : isT b) (hw : mr 44 0 = some b) {s : Rw} {n m q : Nat} (hS : WS mi b s n m q) {a : Nat} {al : Int32} (ha : a < n) (hq : Q (some (.int (bitsB (rcB (alE s q al) (fN s) (tN s) m a) 10))) sh mi mr) :
    ∀ (k i : Nat), i + k = m → ∀ x6 x7 x8 : Value, catL x6 = true → catL x7 = true → catL x8 = true → WP (d + 2) mX10_reachedBy 15 [.ref 44, .int (nI a), .int al, .int (bitsB (stdS s q) m &&& al), .int (bitsB (itR (alE s q al) (fN s) (tN s) m a i) 10), .int (nI i), x6, x7, x8] [] sh mi mr 0 0 Q := by
  have hT := TB.of hF hB hTb
  have hb44 : b + 11 < 44 := by unfold isT at hTb; omega
  have hn10 := hS.n10; have hm8 := hS.m8
  have hfl : ∀ l, l < m → fN s l < 10 := fun l hl => by have := hS.fn hl; omega
  have htl : ∀ l, l < m → tN s l < 10 := fun l hl => by have := hS.tn hl; omega
  intro k
  induction k with
  | zero =>
    intro i hk x6 x7 x8 hx6 hx7 hx8
    obtain rfl : i = m := by omega
    refine r_iload (μ := mX10_reachedBy) (pc := 15) dX10_reachedBy_15 rfl ?_
    refine r_aload_n (μ := mX10_reachedBy) (pc := 17) dX10_reachedBy_17 rfl rfl rfl ?_
    refine r_getR (μ := mX10_reachedBy) (pc := 18) dX10_reachedBy_18 fpX10_21 rfl (hF _ _ rfl) (by decide) hw ?_
    refine r_getI (μ := mX10_reachedBy) (pc := 21) dX10_reachedBy_21 fpX10_25 rfl (hT.1 0 _ rfl) (by decide) ?_
    rw [hS.em]
    refine r_icmp_ge (μ := mX10_reachedBy) (pc := 24) (tgt := 116) dX10_reachedBy_24 (by decide) (fun h_24 => ?_) (fun h_24 => absurd (nI_le (Nat.le_refl _) (by omega)) h_24)
    refine r_iload (μ := mX10_reachedBy) (pc := 116) dX10_reachedBy_116 rfl ?_
    exact r_iret (μ := mX10_reachedBy) (pc := 118) dX10_reachedBy_118 rfl rfl hq
  | succ k ih =>
    intro i hk x6 x7 x8 hx6 hx7 hx8
    refine r_iload (μ := mX10_reachedBy) (pc := 15) dX10_reachedBy_15 rfl ?_
    refine r_aload_n (μ := mX10_reachedBy) (pc := 17) dX10_reachedBy_17 rfl rfl rfl ?_
    refine r_getR (μ := mX10_reachedBy) (pc := 18) dX10_reachedBy_18 fpX10_21 rfl (hF _ _ rfl) (by decide) hw ?_
    refine r_getI (μ := mX10_reachedBy) (pc := 21) dX10_reachedBy_21 fpX10_25 rfl (hT.1 0 _ rfl) (by decide) ?_
    rw [hS.em]
    refine r_icmp_ge (μ := mX10_reachedBy) (pc := 24) (tgt := 116) dX10_reachedBy_24 (by decide) (fun h_24 => absurd h_24 (nI_ge (by omega) (by omega))) (fun h_24 => ?_)
    refine r_iload (μ := mX10_reachedBy) (pc := 27) dX10_reachedBy_27 rfl ?_
    refine s_istore (μ := mX10_reachedBy) (pc := 29) (L2 := [_, _, _, _, _, _, _, _, _]) dX10_reachedBy_29 (Nat.le_of_ble_eq_true rfl) (Nat.le_of_ble_eq_true rfl) (by simp only [List.all_cons, List.all_nil, catL_i, catL_r, hx6, hx7, hx8, Bool.and_self]) rfl ?_
    refine r_iconst (μ := mX10_reachedBy) (pc := 31) (v := 0) dX10_reachedBy_31 ic_0 ?_
    refine s_istore (μ := mX10_reachedBy) (pc := 32) (L2 := [_, _, _, _, _, _, _, _, _]) dX10_reachedBy_32 (Nat.le_of_ble_eq_true rfl) (Nat.le_of_ble_eq_true rfl) (by simp only [List.all_cons, List.all_nil, catL_i, catL_r, hx6, hx7, hx8, Bool.and_self]) rfl ?_
    refine lp_rkI hF hB hTb hw hS (P := itR (alE s q al) (fN s) (tN s) m a i) (fun y8 hy8 => ?_) m 0 (Nat.zero_add _) _ hx8
    refine r_iload (μ := mX10_reachedBy) (pc := 100) dX10_reachedBy_100 rfl ?_
    refine r_iload (μ := mX10_reachedBy) (pc := 102) dX10_reachedBy_102 rfl ?_
    refine r_icmp_ne (μ := mX10_reachedBy) (pc := 104) (tgt := 110) dX10_reachedBy_104 (by decide) (fun h_104 => ?_) (fun h_104 => ?_)
    · have h104 : True := trivial
      refine s_iinc (μ := mX10_reachedBy) (pc := 110) (c := 1) (L2 := [_, _, _, _, _, _, _, _, _]) dX10_reachedBy_110 rfl ic_1 (Nat.le_of_ble_eq_true rfl) (by simp only [List.all_cons, List.all_nil, catL_i, catL_r, hy8, Bool.and_self]) rfl ?_
      refine r_goto (μ := mX10_reachedBy) (pc := 113) (tgt := 15) dX10_reachedBy_113 (by decide) ?_
      exact WP.L (by rw [nI_succ]; rfl) (ih (i + 1) (by omega) _ _ _ rfl rfl hy8)
    · have hx := bits_inj (by decide) h_104
      have hcl := pasR_fix hfl htl hx
      have he : bitsB (rcB (alE s q al) (fN s) (tN s) m a) 10 = bitsB (itR (alE s q al) (fN s) (tN s) m a i) 10 := bits_cong 10 (fun x _ => (rcB_un hfl htl (itR_a i) (itR_s i) hcl x).symm)
      refine r_goto (μ := mX10_reachedBy) (pc := 107) (tgt := 116) dX10_reachedBy_107 (by decide) ?_
      refine r_iload (μ := mX10_reachedBy) (pc := 116) dX10_reachedBy_116 rfl ?_
      exact r_iret (μ := mX10_reachedBy) (pc := 118) dX10_reachedBy_118 rfl rfl (by rw [he, ← h_104] at hq; exact hq)

theorem k_reachedBy {d : Nat} {sh : List Sh} {mi : MI} {mr : MR} (hF : SHC sh) (hB : CB mr) {b : Nat} (hTb : isT b) (hw : mr 44 0 = some b) {s : Rw} {n m q : Nat} (hS : WS mi b s n m q) {a : Nat} {al : Int32} (ha : a < n) : CP (d + 2) mX10_reachedBy [.ref 44, .int (nI a), .int al] sh mi mr 0 0 (PI (bitsB (rcB (alE s q al) (fN s) (tN s) m a) 10) sh mi mr) := by
  have hT := TB.of hF hB hTb
  have hb44 : b + 11 < 44 := by unfold isT at hTb; omega
  have hn10 := hS.n10; have hm8 := hS.m8
  refine CP.of (L := [_, _, _, _, _, _, _, _, _]) (by decide) rfl rfl (Nat.le_of_ble_eq_true rfl) ?_
  refine r_aload_n (μ := mX10_reachedBy) (pc := 0) dX10_reachedBy_0 rfl rfl rfl ?_
  refine vP0 (μ := mX10_reachedBy) (pc := 1) (c0 := 10) (q0 := (RX10, TX10, 4)) (μ2 := mX10_standing) dX10_reachedBy_1 (hF _ _ rfl) rfl lkX10_49 imX10_standing seX10_X10_standing_X10_standing mwX10_standing (Nat.le_of_ble_eq_true rfl) (k_standing hF hB hTb hw hS) ?_
  refine r_iload_n (μ := mX10_reachedBy) (pc := 4) dX10_reachedBy_4 rfl rfl ?_
  refine r_iand (μ := mX10_reachedBy) (pc := 5) dX10_reachedBy_5 ?_
  refine s_istore_n (μ := mX10_reachedBy) (pc := 6) (L2 := [_, _, _, _, _, _, _, _, _]) dX10_reachedBy_6 rfl (Nat.le_of_ble_eq_true rfl) (Nat.le_of_ble_eq_true rfl) rfl rfl ?_
  refine r_iconst (μ := mX10_reachedBy) (pc := 7) (v := 1) dX10_reachedBy_7 ic_1 ?_
  refine r_iload_n (μ := mX10_reachedBy) (pc := 8) dX10_reachedBy_8 rfl rfl ?_
  refine r_ishl (μ := mX10_reachedBy) (pc := 9) dX10_reachedBy_9 ?_
  refine s_istore (μ := mX10_reachedBy) (pc := 10) (L2 := [_, _, _, _, _, _, _, _, _]) dX10_reachedBy_10 (Nat.le_of_ble_eq_true rfl) (Nat.le_of_ble_eq_true rfl) rfl rfl ?_
  refine r_iconst (μ := mX10_reachedBy) (pc := 12) (v := 0) dX10_reachedBy_12 ic_0 ?_
  refine s_istore (μ := mX10_reachedBy) (pc := 13) (L2 := [_, _, _, _, _, _, _, _, _]) dX10_reachedBy_13 (Nat.le_of_ble_eq_true rfl) (Nat.le_of_ble_eq_true rfl) rfl rfl ?_
  rw [bits_one (show a < 10 by omega) (by decide)]
  exact lp_rkO hF hB hTb hw hS ha (PI_i rfl) m 0 (Nat.zero_add _) _ _ _ rfl rfl rfl

theorem al_m1 {s : Rw} {q m a : Nat} (hm : m ≤ 8) : bitsB (rcB (alE s q (-1)) (fN s) (tN s) m a) 10 = rbS s q m (-1) a := by
  unfold rbS rbB
  rw [rcB_e (E2 := stdE s q (-1)) (fun l hl => ?_)]
  unfold alE stdE
  rw [b_m1 l (by omega), show decide (nI l = -1) = false from decide_eq_false (fun z => by have h0 := nI_pos (n := l) (by omega); rw [z] at h0; exact h0 (by decide))]
  rfl
theorem al_wo {s : Rw} {q m a i : Nat} (hm : m ≤ 8) (hi : i < m) : bitsB (rcB (alE s q (1 <<< (nI i &&& 31) ^^^ -1)) (fN s) (tN s) m a) 10 = rbS s q m (nI i) a := by
  unfold rbS rbB
  rw [rcB_e (E2 := stdE s q (nI i)) (fun l hl => ?_)]
  unfold alE stdE
  rw [b_xor, b_m1 l (by omega), bt_sh (by omega) (by omega), Bool.xor_true]
  by_cases e : l = i
  · subst e; simp
  · rw [show decide (nI l = nI i) = false from decide_eq_false (fun z => e ((nI_eq (by omega) (by omega)).mp z)), decide_eq_false e]

theorem k_reachedFrom {d : Nat} {sh : List Sh} {mi : MI} {mr : MR} (hF : SHC sh) (hB : CB mr) {b : Nat} (hTb : isT b) (hw : mr 44 0 = some b) {s : Rw} {n m q : Nat} (hS : WS mi b s n m q) {a : Nat} (ha : a < n) : CP (d + 3) mX10_reachedFrom [.ref 44, .int (nI a)] sh mi mr 0 0 (PI (rbS s q m (-1) a) sh mi mr) := by
  have hT := TB.of hF hB hTb
  have hb44 : b + 11 < 44 := by unfold isT at hTb; omega
  have hn10 := hS.n10; have hm8 := hS.m8
  refine CP.of (L := [_, _]) (by decide) rfl rfl (Nat.le_of_ble_eq_true rfl) ?_
  refine r_aload_n (μ := mX10_reachedFrom) (pc := 0) dX10_reachedFrom_0 rfl rfl rfl ?_
  refine r_iload_n (μ := mX10_reachedFrom) (pc := 1) dX10_reachedFrom_1 rfl rfl ?_
  refine r_iconst (μ := mX10_reachedFrom) (pc := 2) (v := -1) dX10_reachedFrom_2 ic_m1 ?_
  refine vP2 (μ := mX10_reachedFrom) (pc := 3) (c0 := 10) (q0 := (RX10, TX10, 4)) (μ2 := mX10_reachedBy) dX10_reachedFrom_3 (hF _ _ rfl) rfl lkX10_45 imX10_reachedBy seX10_X10_reachedBy_X10_reachedBy mwX10_reachedBy (Nat.le_of_ble_eq_true rfl) (k_reachedBy hF hB hTb hw hS ha) ?_
  exact r_iret (μ := mX10_reachedFrom) (pc := 6) dX10_reachedFrom_6 rfl rfl (PI_i (al_m1 hm8))

theorem k_reachedWithout {d : Nat} {sh : List Sh} {mi : MI} {mr : MR} (hF : SHC sh) (hB : CB mr) {b : Nat} (hTb : isT b) (hw : mr 44 0 = some b) {s : Rw} {n m q : Nat} (hS : WS mi b s n m q) {a i : Nat} (ha : a < n) (hi : i < m) : CP (d + 3) mX10_reachedWithout [.ref 44, .int (nI i), .int (nI a)] sh mi mr 0 0 (PI (rbS s q m (nI i) a) sh mi mr) := by
  have hT := TB.of hF hB hTb
  have hb44 : b + 11 < 44 := by unfold isT at hTb; omega
  have hn10 := hS.n10; have hm8 := hS.m8
  refine CP.of (L := [_, _, _]) (by decide) rfl rfl (Nat.le_of_ble_eq_true rfl) ?_
  refine r_aload_n (μ := mX10_reachedWithout) (pc := 0) dX10_reachedWithout_0 rfl rfl rfl ?_
  refine r_iload_n (μ := mX10_reachedWithout) (pc := 1) dX10_reachedWithout_1 rfl rfl ?_
  refine r_iconst (μ := mX10_reachedWithout) (pc := 2) (v := 1) dX10_reachedWithout_2 ic_1 ?_
  refine r_iload_n (μ := mX10_reachedWithout) (pc := 3) dX10_reachedWithout_3 rfl rfl ?_
  refine r_ishl (μ := mX10_reachedWithout) (pc := 4) dX10_reachedWithout_4 ?_
  refine r_iconst (μ := mX10_reachedWithout) (pc := 5) (v := -1) dX10_reachedWithout_5 ic_m1 ?_
  refine r_ixor (μ := mX10_reachedWithout) (pc := 6) dX10_reachedWithout_6 ?_
  refine vP2 (μ := mX10_reachedWithout) (pc := 7) (c0 := 10) (q0 := (RX10, TX10, 4)) (μ2 := mX10_reachedBy) dX10_reachedWithout_7 (hF _ _ rfl) rfl lkX10_45 imX10_reachedBy seX10_X10_reachedBy_X10_reachedBy mwX10_reachedBy (Nat.le_of_ble_eq_true rfl) (k_reachedBy hF hB hTb hw hS ha) ?_
  exact r_iret (μ := mX10_reachedWithout) (pc := 10) dX10_reachedWithout_10 rfl rfl (PI_i (al_wo hm8 hi))

theorem k_groundCount {d : Nat} {sh : List Sh} {mi : MI} {mr : MR} (hF : SHC sh) (hB : CB mr) {b : Nat} (hTb : isT b) (hw : mr 44 0 = some b) {s : Rw} {n m q : Nat} (hS : WS mi b s n m q) : CP (d + 4) mX10_groundCount [.ref 44] sh mi mr 0 0 (PI (if n = 0 then 0 else nI (gcnt s q m)) sh mi mr) := by
  have hT := TB.of hF hB hTb
  have hb44 : b + 11 < 44 := by unfold isT at hTb; omega
  have hn10 := hS.n10; have hm8 := hS.m8
  refine CP.of (L := [_]) (by decide) rfl rfl (Nat.le_of_ble_eq_true rfl) ?_
  refine r_aload_n (μ := mX10_groundCount) (pc := 0) dX10_groundCount_0 rfl rfl rfl ?_
  refine r_getR (μ := mX10_groundCount) (pc := 1) dX10_groundCount_1 fpX10_21 rfl (hF _ _ rfl) (by decide) hw ?_
  refine r_getI (μ := mX10_groundCount) (pc := 4) dX10_groundCount_4 fpX10_56 rfl (hT.1 0 _ rfl) (by decide) ?_
  rw [hS.en]
  refine r_if_ne (μ := mX10_groundCount) (pc := 7) (tgt := 14) dX10_groundCount_7 (by decide) (fun h_7 => ?_) (fun h_7 => ?_)
  · have hn0 : ¬ n = 0 := fun z => h_7 (by rw [z]; rfl)
    refine r_aload_n (μ := mX10_groundCount) (pc := 14) dX10_groundCount_14 rfl rfl rfl ?_
    refine r_iconst (μ := mX10_groundCount) (pc := 15) (v := 0) dX10_groundCount_15 ic_0 ?_
    refine vP1 (μ := mX10_groundCount) (pc := 16) (c0 := 10) (q0 := (RX10, TX10, 4)) (μ2 := mX10_reachedFrom) dX10_groundCount_16 (hF _ _ rfl) rfl lkX10_59 imX10_reachedFrom seX10_X10_reachedFrom_X10_reachedFrom mwX10_reachedFrom (Nat.le_of_ble_eq_true rfl) (k_reachedFrom hF hB hTb hw hS (a := 0) (by omega)) ?_
    refine sP1 (μ := mX10_groundCount) (pc := 19) (μ2 := mJ6_bitCount_0f7a4) dX10_groundCount_19 lkX10_62 stJ6_bitCount_0f7a4 mwJ6_bitCount_0f7a4 (Nat.le_of_ble_eq_true rfl) k_bitCount ?_
    exact r_iret (μ := mX10_groundCount) (pc := 22) dX10_groundCount_22 rfl rfl (PI_i (by first | (rw [if_pos hn0]) | (rw [if_neg hn0]; exact bc_bits _ (by decide))))
  · have hn0 : n = 0 := (nI_eq (a := n) (b := 0) (by omega) (by decide)).mp h_7
    refine r_iconst (μ := mX10_groundCount) (pc := 10) (v := 0) dX10_groundCount_10 ic_0 ?_
    refine r_goto (μ := mX10_groundCount) (pc := 11) (tgt := 22) dX10_groundCount_11 (by decide) ?_
    exact r_iret (μ := mX10_groundCount) (pc := 22) dX10_groundCount_22 rfl rfl (PI_i (by first | (rw [if_pos hn0]) | (rw [if_neg hn0]; exact bc_bits _ (by decide))))

theorem k_reachedIfMoved {d : Nat} {sh : List Sh} {mi : MI} {mr : MR} (hF : SHC sh) (hB : CB mr) {b : Nat} (hTb : isT b) (hw : mr 44 0 = some b) {s : Rw} {n m q : Nat} (hS : WS mi b s n m q) {l k : Nat} (hl : l < m) (hk : k < n) : CP (d + 5) mX10_reachedIfMoved [.ref 44, .int (nI l), .int (nI k)] sh mi mr 0 0 (PI (nI (gcnt (lean s l k) q m)) sh mi mr) := by
  have hT := TB.of hF hB hTb
  have hb44 : b + 11 < 44 := by unfold isT at hTb; omega
  have hn10 := hS.n10; have hm8 := hS.m8
  refine CP.of (L := [_, _, _, _, _]) (by decide) rfl rfl (Nat.le_of_ble_eq_true rfl) ?_
  refine r_aload_n (μ := mX10_reachedIfMoved) (pc := 0) dX10_reachedIfMoved_0 rfl rfl rfl ?_
  refine r_getR (μ := mX10_reachedIfMoved) (pc := 1) dX10_reachedIfMoved_1 fpX10_15 rfl (hF _ _ rfl) (by decide) (hB _ _ _ rfl) ?_
  refine r_iload_n (μ := mX10_reachedIfMoved) (pc := 4) dX10_reachedIfMoved_4 rfl rfl ?_
  refine r_iaload (μ := mX10_reachedIfMoved) (pc := 5) (j := l) dX10_reachedIfMoved_5 (hF _ _ rfl) rfl (by omega) (by decide) ?_
  refine s_istore_n (μ := mX10_reachedIfMoved) (pc := 6) (L2 := [_, _, _, _, _]) dX10_reachedIfMoved_6 rfl (Nat.le_of_ble_eq_true rfl) (Nat.le_of_ble_eq_true rfl) rfl rfl ?_
  refine r_aload_n (μ := mX10_reachedIfMoved) (pc := 7) dX10_reachedIfMoved_7 rfl rfl rfl ?_
  refine r_getR (μ := mX10_reachedIfMoved) (pc := 8) dX10_reachedIfMoved_8 fpX10_15 rfl (hF _ _ rfl) (by decide) (hB _ _ _ rfl) ?_
  refine r_iload_n (μ := mX10_reachedIfMoved) (pc := 11) dX10_reachedIfMoved_11 rfl rfl ?_
  refine r_iload_n (μ := mX10_reachedIfMoved) (pc := 12) dX10_reachedIfMoved_12 rfl rfl ?_
  refine r_iastore (μ := mX10_reachedIfMoved) (pc := 13) (j := l) dX10_reachedIfMoved_13 (hF _ _ rfl) rfl (by omega) (by decide) ?_
  refine r_aload_n (μ := mX10_reachedIfMoved) (pc := 14) dX10_reachedIfMoved_14 rfl rfl rfl ?_
  refine vP0 (μ := mX10_reachedIfMoved) (pc := 15) (c0 := 10) (q0 := (RX10, TX10, 4)) (μ2 := mX10_groundCount) dX10_reachedIfMoved_15 (hF _ _ rfl) rfl lkX10_67 imX10_groundCount seX10_X10_groundCount_X10_groundCount mwX10_groundCount (Nat.le_of_ble_eq_true rfl) (k_groundCount hF hB hTb hw (hS.lean hb44 hl hk)) ?_
  refine s_istore (μ := mX10_reachedIfMoved) (pc := 18) (L2 := [_, _, _, _, _]) dX10_reachedIfMoved_18 (Nat.le_of_ble_eq_true rfl) (Nat.le_of_ble_eq_true rfl) rfl rfl ?_
  refine r_aload_n (μ := mX10_reachedIfMoved) (pc := 20) dX10_reachedIfMoved_20 rfl rfl rfl ?_
  refine r_getR (μ := mX10_reachedIfMoved) (pc := 21) dX10_reachedIfMoved_21 fpX10_15 rfl (hF _ _ rfl) (by decide) (hB _ _ _ rfl) ?_
  refine r_iload_n (μ := mX10_reachedIfMoved) (pc := 24) dX10_reachedIfMoved_24 rfl rfl ?_
  refine r_iload_n (μ := mX10_reachedIfMoved) (pc := 25) dX10_reachedIfMoved_25 rfl rfl ?_
  refine r_iastore (μ := mX10_reachedIfMoved) (pc := 26) (j := l) dX10_reachedIfMoved_26 (hF _ _ rfl) rfl (by omega) (by decide) ?_
  rw [uu, us rfl]
  refine r_iload (μ := mX10_reachedIfMoved) (pc := 27) dX10_reachedIfMoved_27 rfl ?_
  exact r_iret (μ := mX10_reachedIfMoved) (pc := 29) dX10_reachedIfMoved_29 rfl rfl (PI_i (by rw [if_neg (by omega)]))

