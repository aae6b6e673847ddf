theorem k_copyRow {d : Nat} {sh : List Sh} {mi : MI} {mr : MR} {a0 a1 n : Nat} (h0 : sh[a0]? = some (0, n)) (h1 : sh[a1]? = some (0, n)) (hn : n < 1000) : CP d mX9_copyRow [.ref a0, .ref a1] sh mi mr 0 0 (PV sh mr (fun mi2 => mi2 = cpI mi a0 a1 0 0 n)) := by
  refine CP.of (L := [_, _]) (by decide) rfl rfl (Nat.le_of_ble_eq_true rfl) ?_
  refine r_aload_n (μ := mX9_copyRow) (pc := 0) dX9_copyRow_0 rfl rfl rfl ?_
  refine r_iconst (μ := mX9_copyRow) (pc := 1) (v := 0) dX9_copyRow_1 ic_0 ?_
  refine r_aload_n (μ := mX9_copyRow) (pc := 2) dX9_copyRow_2 rfl rfl rfl ?_
  refine r_iconst (μ := mX9_copyRow) (pc := 3) (v := 0) dX9_copyRow_3 ic_0 ?_
  refine r_aload_n (μ := mX9_copyRow) (pc := 4) dX9_copyRow_4 rfl rfl rfl ?_
  refine r_alen (μ := mX9_copyRow) (pc := 5) dX9_copyRow_5 (by decide) h0 ?_
  refine r_aload_n (μ := mX9_copyRow) (pc := 6) dX9_copyRow_6 rfl rfl rfl ?_
  refine r_alen (μ := mX9_copyRow) (pc := 7) dX9_copyRow_7 (by decide) h1 ?_
  refine r_mmin (μ := mX9_copyRow) (pc := 8) dX9_copyRow_8 lkX9_81 (Nat.le_of_ble_eq_true rfl) ?_
  rw [show mnI (nI n) (nI n) = nI n from ite_self _]
  refine r_copy (μ := mX9_copyRow) (pc := 11) (sp := 0) (dp := 0) (n := n) dX9_copyRow_11 lkX9_87 h0 h1 rfl rfl rfl (by omega) (by omega) (by omega) (by omega) (Nat.le_of_ble_eq_true rfl) ?_
  exact r_vret (μ := mX9_copyRow) (pc := 14) dX9_copyRow_14 rfl (PV_i rfl)

def tcp (mr : MR) (b b2 i : Nat) : MR := fun x => if x = b + 9 then (fun k => if k < i then mr (b2 + 9) k else mr (b + 9) k) else mr x
theorem tcp_0 (mr : MR) (b b2 : Nat) : tcp mr b b2 0 = mr := by
  funext x
  by_cases h : x = b + 9
  · subst h; simp [tcp]
  · simp [tcp, h]
theorem tcp_s (mr : MR) (b b2 i : Nat) : upR (tcp mr b b2 i) (b + 9) i (mr (b2 + 9) i) = tcp mr b b2 (i + 1) := by
  funext x
  by_cases h : x = b + 9
  · subst h
    funext k
    simp only [upR, tcp, va_up, if_true]
    by_cases hk : k = i
    · subst hk; simp
    · have : (k < i + 1) = (k < i) := by apply propext; omega
      simp [hk, this]
  · simp [upR, tcp, h]
theorem tcp_ne {mr : MR} {b b2 i x : Nat} (h : x ≠ b + 9) : tcp mr b b2 i x = mr x := by simp [tcp, h]
theorem tcp_at {mr : MR} {b b2 i k : Nat} (h : k < i) : tcp mr b b2 i (b + 9) k = mr (b2 + 9) k := by simp [tcp, h]
/-- the town at b has become as the one at b2 -/
def BA (mi mi2 : MI) (b b2 : Nat) : Prop := (∀ x, x < b ∨ b + 10 < x ∨ x = b + 9 → mi2 x = mi x) ∧ (mi2 b 1 = mi b2 1 ∧ mi2 b 4 = mi b2 4 ∧ mi2 b 10 = mi b2 10 ∧ mi2 b 16 = mi b2 16) ∧ (mi2 b 9 = mi b2 9 ∧ mi2 b 13 = mi b2 13 ∧ mi2 b 14 = mi b2 14 ∧ mi2 b 15 = mi b2 15) ∧ (∀ k, k < 10 → mi2 (b + 1) k = mi (b2 + 1) k ∧ mi2 (b + 2) k = mi (b2 + 2) k) ∧ (∀ k, k < 8 → mi2 (b + 3) k = mi (b2 + 3) k ∧ mi2 (b + 4) k = mi (b2 + 4) k ∧ mi2 (b + 5) k = mi (b2 + 5) k ∧ mi2 (b + 6) k = mi (b2 + 6) k) ∧ (∀ k, k < 6 → mi2 (b + 7) k = mi (b2 + 7) k ∧ mi2 (b + 8) k = mi (b2 + 8) k) ∧ ∀ k, k < 3 → mi2 (b + 10) k = mi (b2 + 10) k
/-- what lies in a town's row of texts are texts -/
def TxR (sh : List Sh) (mr : MR) (b : Nat) : Prop := ∀ t, t < 14 → ∀ a, mr (b + 9) t = some a → 76 ≤ a ∧ sh[a]? = some (12, 3)
theorem cp_r {f g : Rw} {n k : Nat} (h : k < n) : va_cpy f g 0 0 n k = f k := by
  rw [va_cpy_in (by omega), Nat.zero_add, Nat.sub_zero]
theorem RT.ba {sh : List Sh} {mi mi2 : MI} {mr : MR} {b b2 : Nat} {s : Rw} {n m p q : Nat} (h : RT sh mi mr b2 s n m p q) (hI : Inv s n m p q) (hb : b + 11 < 76) (hb2 : b2 + 11 < b ∨ b + 11 < b2) (hB : BA mi mi2 b b2) : RT sh mi2 (tcp mr b b2 14) b s n m p q ∧ RT sh mi2 (tcp mr b b2 14) b2 s n m p q := by
  have hn10 := hI.n10
  have hm8 := hI.m8
  have hp6 := hI.p6
  have hq14 := hI.q14
  obtain ⟨f0, ⟨f1, f2, f3, f4⟩, ⟨g1, g2, g3, g4⟩, r1, r2, r3, r4⟩ := hB
  have hx : ∀ t a, TXT sh mi mr a s t → TXT sh mi2 (tcp mr b b2 14) a s t := by
    intro t a hX
    have hX2 := hX.fr (mi2 := mi2) (fun x hx => f0 x (by omega))
    obtain ⟨c, kt, ⟨z1, z2⟩, e2, e3, e4, e5⟩ := hX2
    exact ⟨c, kt, ⟨z1, z2⟩, e2, by rw [tcp_ne (by omega)]; exact e3, e4, e5⟩
  constructor
  · refine ⟨⟨f1.trans h.en, f2.trans h.em, f3.trans h.ep, f4.trans h.eq⟩, ⟨g1.trans h.mv, g2.trans h.dy, g3.trans h.th, g4.trans h.z⟩, fun i hi => ⟨(r1 i (by omega)).1.trans (h.hg hi), (r1 i (by omega)).2.trans (h.pl hi)⟩, fun l hl => ⟨(r2 l (by omega)).1.trans (h.kd hl), (r2 l (by omega)).2.1.trans (h.ln hl), (r2 l (by omega)).2.2.1.trans (h.ft hl), (r2 l (by omega)).2.2.2.trans (h.tp hl)⟩, fun i hi => ⟨(r3 i (by omega)).1.trans (h.sp hi), (r3 i (by omega)).2.trans (h.sg hi)⟩, fun k hk => (r4 k hk).trans (h.lk hk), fun t ht => ?_⟩
    obtain ⟨a, a1, a2⟩ := h.tx ht
    exact ⟨a, by rw [tcp_at (by omega)]; exact a1, hx t a a2⟩
  · have h2 := h.fr (mi2 := mi2) (fun x h1 h2 => f0 x (by omega)) (fun x hx => f0 x (by omega))
    obtain ⟨w1, w2, w3, w4, w5, w6, -⟩ := h2
    refine ⟨w1, w2, w3, w4, w5, w6, fun t ht => ?_⟩
    obtain ⟨a, a1, a2⟩ := h.tx ht
    exact ⟨a, by rw [tcp_ne (by omega)]; exact a1, hx t a a2⟩
theorem TxR.tc {sh : List Sh} {mr : MR} {b b2 : Nat} (h2 : TxR sh mr b2) : TxR sh (tcp mr b b2 14) b := by
  intro t ht a ha
  rw [tcp_at ht] at ha
  exact h2 t ht a ha
theorem TxR.to {sh : List Sh} {mr : MR} {b b2 c : Nat} (h2 : TxR sh mr c) (hc : c ≠ b) : TxR sh (tcp mr b b2 14) c := by
  intro t ht a ha
  rw [tcp_ne (by omega)] at ha
  exact h2 t ht a ha

theorem lp_ba8_20 {d : Nat} {sh : List Sh} {mi : MI} {mr : MR} (hF : SHC sh) (hB : CB mr) (h0 : TxR sh mr 20) {Q : QT} (hq : WP (d + 1) mX9_becomeAs 178 [.ref 8, .ref 20, .int (nI 14)] [] sh mi (tcp mr 8 20 14) 0 0 Q) :
    ∀ (k i : Nat), i + k = 14 → WP (d + 1) mX9_becomeAs 154 [.ref 8, .ref 20, .int (nI i)] [] sh mi (tcp mr 8 20 i) 0 0 Q := by
  intro k
  induction k with
  | zero =>
    intro i hk
    obtain rfl : i = 14 := by omega
    refine r_iload_n (μ := mX9_becomeAs) (pc := 154) dX9_becomeAs_154 rfl rfl ?_
    refine r_bipush (μ := mX9_becomeAs) (pc := 155) (v := 14) dX9_becomeAs_155 bp_14 ?_
    refine r_icmp_ge (μ := mX9_becomeAs) (pc := 157) (tgt := 178) dX9_becomeAs_157 (by decide) (fun h_157 => ?_) (fun h_157 => absurd (nI_le (a := 14) (b := 14) (Nat.le_refl _) (by decide)) h_157)
    exact hq
  | succ k ih =>
    intro i hk
    have hBt : ∀ a k c, ctab a k = some c → a ≠ 17 → tcp mr 8 20 i a k = some c := fun a k c h1 h2 => by rw [tcp_ne h2]; exact hB a k c h1
    cases hx : mr 29 i with
    | none =>
      refine r_iload_n (μ := mX9_becomeAs) (pc := 154) dX9_becomeAs_154 rfl rfl ?_
      refine r_bipush (μ := mX9_becomeAs) (pc := 155) (v := 14) dX9_becomeAs_155 bp_14 ?_
      refine r_icmp_ge (μ := mX9_becomeAs) (pc := 157) (tgt := 178) dX9_becomeAs_157 (by decide) (fun h_157 => absurd h_157 (nI_ge (b := 14) (by omega) (by decide))) (fun h_157 => ?_)
      refine r_aload_n (μ := mX9_becomeAs) (pc := 160) dX9_becomeAs_160 rfl rfl rfl ?_
      refine r_getR (μ := mX9_becomeAs) (pc := 161) dX9_becomeAs_161 fpX9_63 rfl (hF _ _ rfl) (by decide) (hBt _ _ _ rfl (by decide)) ?_
      refine r_iload_n (μ := mX9_becomeAs) (pc := 164) dX9_becomeAs_164 rfl rfl ?_
      refine r_aload_n (μ := mX9_becomeAs) (pc := 165) dX9_becomeAs_165 rfl rfl rfl ?_
      refine r_getR (μ := mX9_becomeAs) (pc := 166) dX9_becomeAs_166 fpX9_63 rfl (hF _ _ rfl) (by decide) (hBt _ _ _ rfl (by decide)) ?_
      refine r_iload_n (μ := mX9_becomeAs) (pc := 169) dX9_becomeAs_169 rfl rfl ?_
      refine r_aaloadN (μ := mX9_becomeAs) (pc := 170) (t := 2) dX9_becomeAs_170 (by decide) (hF _ _ rfl) rfl (by omega) (by decide) (by rw [tcp_ne (by decide)]; exact hx) ?_
      refine r_aastoreN (μ := mX9_becomeAs) (pc := 171) (j := i) dX9_becomeAs_171 (hF _ _ rfl) rfl (by omega) (by decide) ?_
      refine s_iinc (μ := mX9_becomeAs) (pc := 172) (c := 1) (L2 := [_, _, _]) dX9_becomeAs_172 rfl ic_1 (Nat.le_of_ble_eq_true rfl) rfl rfl ?_
      refine r_goto (μ := mX9_becomeAs) (pc := 175) (tgt := 154) dX9_becomeAs_175 (by decide) ?_
      have e : upR (tcp mr 8 20 i) 17 i none = tcp mr 8 20 (i + 1) := by rw [← hx]; exact tcp_s mr 8 20 i
      rw [e]
      exact WP.L (by rw [nI_succ]) (ih (i + 1) (by omega))
    | some a =>
      obtain ⟨ha1, ha2⟩ := h0 i (by omega) a hx
      refine r_iload_n (μ := mX9_becomeAs) (pc := 154) dX9_becomeAs_154 rfl rfl ?_
      refine r_bipush (μ := mX9_becomeAs) (pc := 155) (v := 14) dX9_becomeAs_155 bp_14 ?_
      refine r_icmp_ge (μ := mX9_becomeAs) (pc := 157) (tgt := 178) dX9_becomeAs_157 (by decide) (fun h_157 => absurd h_157 (nI_ge (b := 14) (by omega) (by decide))) (fun h_157 => ?_)
      refine r_aload_n (μ := mX9_becomeAs) (pc := 160) dX9_becomeAs_160 rfl rfl rfl ?_
      refine r_getR (μ := mX9_becomeAs) (pc := 161) dX9_becomeAs_161 fpX9_63 rfl (hF _ _ rfl) (by decide) (hBt _ _ _ rfl (by decide)) ?_
      refine r_iload_n (μ := mX9_becomeAs) (pc := 164) dX9_becomeAs_164 rfl rfl ?_
      refine r_aload_n (μ := mX9_becomeAs) (pc := 165) dX9_becomeAs_165 rfl rfl rfl ?_
      refine r_getR (μ := mX9_becomeAs) (pc := 166) dX9_becomeAs_166 fpX9_63 rfl (hF _ _ rfl) (by decide) (hBt _ _ _ rfl (by decide)) ?_
      refine r_iload_n (μ := mX9_becomeAs) (pc := 169) dX9_becomeAs_169 rfl rfl ?_
      refine r_aaload (μ := mX9_becomeAs) (pc := 170) (t := 2) dX9_becomeAs_170 (by decide) (hF _ _ rfl) rfl (by omega) (by decide) (by rw [tcp_ne (by decide)]; exact hx) ?_
      refine r_aastore (μ := mX9_becomeAs) (pc := 171) (t := 2) (j := i) (c0 := 8) dX9_becomeAs_171 (by decide) (hF _ _ rfl) rfl (by omega) (by decide) ha2 rfl (Or.inl rfl) ?_
      refine s_iinc (μ := mX9_becomeAs) (pc := 172) (c := 1) (L2 := [_, _, _]) dX9_becomeAs_172 rfl ic_1 (Nat.le_of_ble_eq_true rfl) rfl rfl ?_
      refine r_goto (μ := mX9_becomeAs) (pc := 175) (tgt := 154) dX9_becomeAs_175 (by decide) ?_
      have e : upR (tcp mr 8 20 i) 17 i (some a) = tcp mr 8 20 (i + 1) := by rw [← hx]; exact tcp_s mr 8 20 i
      rw [e]
      exact WP.L (by rw [nI_succ]) (ih (i + 1) (by omega))

theorem lq_ba8_20 {d : Nat} {sh : List Sh} {mi : MI} {mr : MR} (hF : SHC sh) (hB : CB mr) (h0 : TxR sh mr 20) {Q : QT} (hq : WP (d + 1) mX9_becomeAs 178 [.ref 8, .ref 20, .int (nI 14)] [] sh mi (tcp mr 8 20 14) 0 0 Q) : WP (d + 1) mX9_becomeAs 154 [.ref 8, .ref 20, .int 0] [] sh mi mr 0 0 Q := by
  have h := lp_ba8_20 hF hB h0 hq 14 0 (Nat.zero_add _)
  rw [tcp_0] at h
  exact h

theorem k_ba8_20 {d : Nat} {sh : List Sh} {mi : MI} {mr : MR} (hF : SHC sh) (hB : CB mr) (h0 : TxR sh mr 20) : CP (d + 1) mX9_becomeAs [.ref 8, .ref 20] sh mi mr 0 0 (PW (fun sh2 mi2 mr2 => sh2 = sh ∧ mr2 = tcp mr 8 20 14 ∧ BA mi mi2 8 20)) := by
  refine CP.of (L := [_, _, _]) (by decide) rfl rfl (Nat.le_of_ble_eq_true rfl) ?_
  refine r_aload_n (μ := mX9_becomeAs) (pc := 0) dX9_becomeAs_0 rfl rfl rfl ?_
  refine r_aload_n (μ := mX9_becomeAs) (pc := 1) dX9_becomeAs_1 rfl rfl rfl ?_
  refine r_getI (μ := mX9_becomeAs) (pc := 2) dX9_becomeAs_2 fpX9_9 rfl (hF _ _ rfl) (by decide) ?_
  refine r_putI (μ := mX9_becomeAs) (pc := 5) dX9_becomeAs_5 fwX9_9 (hF _ _ rfl) (by decide) rfl ?_
  refine r_aload_n (μ := mX9_becomeAs) (pc := 8) dX9_becomeAs_8 rfl rfl rfl ?_
  refine r_getR (μ := mX9_becomeAs) (pc := 9) dX9_becomeAs_9 fpX9_15 rfl (hF _ _ rfl) (by decide) (hB _ _ _ rfl) ?_
  refine r_aload_n (μ := mX9_becomeAs) (pc := 12) dX9_becomeAs_12 rfl rfl rfl ?_
  refine r_getR (μ := mX9_becomeAs) (pc := 13) dX9_becomeAs_13 fpX9_15 rfl (hF _ _ rfl) (by decide) (hB _ _ _ rfl) ?_
  refine sV2 (μ := mX9_becomeAs) (pc := 16) (μ2 := mX9_copyRow) dX9_becomeAs_16 lkX9_77 stX9_copyRow mwX9_copyRow (Nat.le_of_ble_eq_true rfl) (k_copyRow (hF _ _ rfl) (hF _ _ rfl) (by decide)) (fun mi_16 h_16 => ?_)
  subst h_16
  refine r_aload_n (μ := mX9_becomeAs) (pc := 19) dX9_becomeAs_19 rfl rfl rfl ?_
  refine r_getR (μ := mX9_becomeAs) (pc := 20) dX9_becomeAs_20 fpX9_19 rfl (hF _ _ rfl) (by decide) (hB _ _ _ rfl) ?_
  refine r_aload_n (μ := mX9_becomeAs) (pc := 23) dX9_becomeAs_23 rfl rfl rfl ?_
  refine r_getR (μ := mX9_becomeAs) (pc := 24) dX9_becomeAs_24 fpX9_19 rfl (hF _ _ rfl) (by decide) (hB _ _ _ rfl) ?_
  refine sV2 (μ := mX9_becomeAs) (pc := 27) (μ2 := mX9_copyRow) dX9_becomeAs_27 lkX9_77 stX9_copyRow mwX9_copyRow (Nat.le_of_ble_eq_true rfl) (k_copyRow (hF _ _ rfl) (hF _ _ rfl) (by decide)) (fun mi_27 h_27 => ?_)
  subst h_27
  refine r_aload_n (μ := mX9_becomeAs) (pc := 30) dX9_becomeAs_30 rfl rfl rfl ?_
  refine r_aload_n (μ := mX9_becomeAs) (pc := 31) dX9_becomeAs_31 rfl rfl rfl ?_
  refine r_getI (μ := mX9_becomeAs) (pc := 32) dX9_becomeAs_32 fpX9_22 rfl (hF _ _ rfl) (by decide) ?_
  refine r_putI (μ := mX9_becomeAs) (pc := 35) dX9_becomeAs_35 fwX9_22 (hF _ _ rfl) (by decide) rfl ?_
  refine r_aload_n (μ := mX9_becomeAs) (pc := 38) dX9_becomeAs_38 rfl rfl rfl ?_
  refine r_getR (μ := mX9_becomeAs) (pc := 39) dX9_becomeAs_39 fpX9_25 rfl (hF _ _ rfl) (by decide) (hB _ _ _ rfl) ?_
  refine r_aload_n (μ := mX9_becomeAs) (pc := 42) dX9_becomeAs_42 rfl rfl rfl ?_
  refine r_getR (μ := mX9_becomeAs) (pc := 43) dX9_becomeAs_43 fpX9_25 rfl (hF _ _ rfl) (by decide) (hB _ _ _ rfl) ?_
  refine sV2 (μ := mX9_becomeAs) (pc := 46) (μ2 := mX9_copyRow) dX9_becomeAs_46 lkX9_77 stX9_copyRow mwX9_copyRow (Nat.le_of_ble_eq_true rfl) (k_copyRow (hF _ _ rfl) (hF _ _ rfl) (by decide)) (fun mi_46 h_46 => ?_)
  subst h_46
  refine r_aload_n (μ := mX9_becomeAs) (pc := 49) dX9_becomeAs_49 rfl rfl rfl ?_
  refine r_getR (μ := mX9_becomeAs) (pc := 50) dX9_becomeAs_50 fpX9_28 rfl (hF _ _ rfl) (by decide) (hB _ _ _ rfl) ?_
  refine r_aload_n (μ := mX9_becomeAs) (pc := 53) dX9_becomeAs_53 rfl rfl rfl ?_
  refine r_getR (μ := mX9_becomeAs) (pc := 54) dX9_becomeAs_54 fpX9_28 rfl (hF _ _ rfl) (by decide) (hB _ _ _ rfl) ?_
  refine sV2 (μ := mX9_becomeAs) (pc := 57) (μ2 := mX9_copyRow) dX9_becomeAs_57 lkX9_77 stX9_copyRow mwX9_copyRow (Nat.le_of_ble_eq_true rfl) (k_copyRow (hF _ _ rfl) (hF _ _ rfl) (by decide)) (fun mi_57 h_57 => ?_)
  subst h_57
  refine r_aload_n (μ := mX9_becomeAs) (pc := 60) dX9_becomeAs_60 rfl rfl rfl ?_
  refine r_getR (μ := mX9_becomeAs) (pc := 61) dX9_becomeAs_61 fpX9_31 rfl (hF _ _ rfl) (by decide) (hB _ _ _ rfl) ?_
  refine r_aload_n (μ := mX9_becomeAs) (pc := 64) dX9_becomeAs_64 rfl rfl rfl ?_
  refine r_getR (μ := mX9_becomeAs) (pc := 65) dX9_becomeAs_65 fpX9_31 rfl (hF _ _ rfl) (by decide) (hB _ _ _ rfl) ?_
  refine sV2 (μ := mX9_becomeAs) (pc := 68) (μ2 := mX9_copyRow) dX9_becomeAs_68 lkX9_77 stX9_copyRow mwX9_copyRow (Nat.le_of_ble_eq_true rfl) (k_copyRow (hF _ _ rfl) (hF _ _ rfl) (by decide)) (fun mi_68 h_68 => ?_)
  subst h_68
  refine r_aload_n (μ := mX9_becomeAs) (pc := 71) dX9_becomeAs_71 rfl rfl rfl ?_
  refine r_getR (μ := mX9_becomeAs) (pc := 72) dX9_becomeAs_72 fpX9_34 rfl (hF _ _ rfl) (by decide) (hB _ _ _ rfl) ?_
  refine r_aload_n (μ := mX9_becomeAs) (pc := 75) dX9_becomeAs_75 rfl rfl rfl ?_
  refine r_getR (μ := mX9_becomeAs) (pc := 76) dX9_becomeAs_76 fpX9_34 rfl (hF _ _ rfl) (by decide) (hB _ _ _ rfl) ?_
  refine sV2 (μ := mX9_becomeAs) (pc := 79) (μ2 := mX9_copyRow) dX9_becomeAs_79 lkX9_77 stX9_copyRow mwX9_copyRow (Nat.le_of_ble_eq_true rfl) (k_copyRow (hF _ _ rfl) (hF _ _ rfl) (by decide)) (fun mi_79 h_79 => ?_)
  subst h_79
  refine r_aload_n (μ := mX9_becomeAs) (pc := 82) dX9_becomeAs_82 rfl rfl rfl ?_
  refine r_aload_n (μ := mX9_becomeAs) (pc := 83) dX9_becomeAs_83 rfl rfl rfl ?_
  refine r_getI (μ := mX9_becomeAs) (pc := 84) dX9_becomeAs_84 fpX9_37 rfl (hF _ _ rfl) (by decide) ?_
  refine r_putI (μ := mX9_becomeAs) (pc := 87) dX9_becomeAs_87 fwX9_37 (hF _ _ rfl) (by decide) rfl ?_
  refine r_aload_n (μ := mX9_becomeAs) (pc := 90) dX9_becomeAs_90 rfl rfl rfl ?_
  refine r_aload_n (μ := mX9_becomeAs) (pc := 91) dX9_becomeAs_91 rfl rfl rfl ?_
  refine r_getI (μ := mX9_becomeAs) (pc := 92) dX9_becomeAs_92 fpX9_40 rfl (hF _ _ rfl) (by decide) ?_
  refine r_putI (μ := mX9_becomeAs) (pc := 95) dX9_becomeAs_95 fwX9_40 (hF _ _ rfl) (by decide) rfl ?_
  refine r_aload_n (μ := mX9_becomeAs) (pc := 98) dX9_becomeAs_98 rfl rfl rfl ?_
  refine r_getR (μ := mX9_becomeAs) (pc := 99) dX9_becomeAs_99 fpX9_43 rfl (hF _ _ rfl) (by decide) (hB _ _ _ rfl) ?_
  refine r_aload_n (μ := mX9_becomeAs) (pc := 102) dX9_becomeAs_102 rfl rfl rfl ?_
  refine r_getR (μ := mX9_becomeAs) (pc := 103) dX9_becomeAs_103 fpX9_43 rfl (hF _ _ rfl) (by decide) (hB _ _ _ rfl) ?_
  refine sV2 (μ := mX9_becomeAs) (pc := 106) (μ2 := mX9_copyRow) dX9_becomeAs_106 lkX9_77 stX9_copyRow mwX9_copyRow (Nat.le_of_ble_eq_true rfl) (k_copyRow (hF _ _ rfl) (hF _ _ rfl) (by decide)) (fun mi_106 h_106 => ?_)
  subst h_106
  refine r_aload_n (μ := mX9_becomeAs) (pc := 109) dX9_becomeAs_109 rfl rfl rfl ?_
  refine r_getR (μ := mX9_becomeAs) (pc := 110) dX9_becomeAs_110 fpX9_46 rfl (hF _ _ rfl) (by decide) (hB _ _ _ rfl) ?_
  refine r_aload_n (μ := mX9_becomeAs) (pc := 113) dX9_becomeAs_113 rfl rfl rfl ?_
  refine r_getR (μ := mX9_becomeAs) (pc := 114) dX9_becomeAs_114 fpX9_46 rfl (hF _ _ rfl) (by decide) (hB _ _ _ rfl) ?_
  refine sV2 (μ := mX9_becomeAs) (pc := 117) (μ2 := mX9_copyRow) dX9_becomeAs_117 lkX9_77 stX9_copyRow mwX9_copyRow (Nat.le_of_ble_eq_true rfl) (k_copyRow (hF _ _ rfl) (hF _ _ rfl) (by decide)) (fun mi_117 h_117 => ?_)
  subst h_117
  refine r_aload_n (μ := mX9_becomeAs) (pc := 120) dX9_becomeAs_120 rfl rfl rfl ?_
  refine r_aload_n (μ := mX9_becomeAs) (pc := 121) dX9_becomeAs_121 rfl rfl rfl ?_
  refine r_getI (μ := mX9_becomeAs) (pc := 122) dX9_becomeAs_122 fpX9_49 rfl (hF _ _ rfl) (by decide) ?_
  refine r_putI (μ := mX9_becomeAs) (pc := 125) dX9_becomeAs_125 fwX9_49 (hF _ _ rfl) (by decide) rfl ?_
  refine r_aload_n (μ := mX9_becomeAs) (pc := 128) dX9_becomeAs_128 rfl rfl rfl ?_
  refine r_aload_n (μ := mX9_becomeAs) (pc := 129) dX9_becomeAs_129 rfl rfl rfl ?_
  refine r_getI (μ := mX9_becomeAs) (pc := 130) dX9_becomeAs_130 fpX9_52 rfl (hF _ _ rfl) (by decide) ?_
  refine r_putI (μ := mX9_becomeAs) (pc := 133) dX9_becomeAs_133 fwX9_52 (hF _ _ rfl) (by decide) rfl ?_
  refine r_aload_n (μ := mX9_becomeAs) (pc := 136) dX9_becomeAs_136 rfl rfl rfl ?_
  refine r_aload_n (μ := mX9_becomeAs) (pc := 137) dX9_becomeAs_137 rfl rfl rfl ?_
  refine r_getI (μ := mX9_becomeAs) (pc := 138) dX9_becomeAs_138 fpX9_55 rfl (hF _ _ rfl) (by decide) ?_
  refine r_putI (μ := mX9_becomeAs) (pc := 141) dX9_becomeAs_141 fwX9_55 (hF _ _ rfl) (by decide) rfl ?_
  refine r_aload_n (μ := mX9_becomeAs) (pc := 144) dX9_becomeAs_144 rfl rfl rfl ?_
  refine r_aload_n (μ := mX9_becomeAs) (pc := 145) dX9_becomeAs_145 rfl rfl rfl ?_
  refine r_getI (μ := mX9_becomeAs) (pc := 146) dX9_becomeAs_146 fpX9_58 rfl (hF _ _ rfl) (by decide) ?_
  refine r_putI (μ := mX9_becomeAs) (pc := 149) dX9_becomeAs_149 fwX9_58 (hF _ _ rfl) (by decide) rfl ?_
  refine r_iconst (μ := mX9_becomeAs) (pc := 152) (v := 0) dX9_becomeAs_152 ic_0 ?_
  refine s_istore_n (μ := mX9_becomeAs) (pc := 153) (L2 := [_, _, _]) dX9_becomeAs_153 rfl (Nat.le_of_ble_eq_true rfl) (Nat.le_of_ble_eq_true rfl) rfl rfl ?_
  refine lq_ba8_20 hF hB h0 ?_
  have hBt : ∀ a k c, ctab a k = some c → a ≠ 17 → tcp mr 8 20 14 a k = some c := fun a k c h1 h2 => by rw [tcp_ne h2]; exact hB a k c h1
  refine r_aload_n (μ := mX9_becomeAs) (pc := 178) dX9_becomeAs_178 rfl rfl rfl ?_
  refine r_getR (μ := mX9_becomeAs) (pc := 179) dX9_becomeAs_179 fpX9_67 rfl (hF _ _ rfl) (by decide) (hBt _ _ _ rfl (by decide)) ?_
  refine r_aload_n (μ := mX9_becomeAs) (pc := 182) dX9_becomeAs_182 rfl rfl rfl ?_
  refine r_getR (μ := mX9_becomeAs) (pc := 183) dX9_becomeAs_183 fpX9_67 rfl (hF _ _ rfl) (by decide) (hBt _ _ _ rfl (by decide)) ?_
  refine sV2 (μ := mX9_becomeAs) (pc := 186) (μ2 := mX9_copyRow) dX9_becomeAs_186 lkX9_77 stX9_copyRow mwX9_copyRow (Nat.le_of_ble_eq_true rfl) (k_copyRow (hF _ _ rfl) (hF _ _ rfl) (by decide)) (fun mi_186 h_186 => ?_)
  subst h_186
  exact r_vret (μ := mX9_becomeAs) (pc := 189) dX9_becomeAs_189 rfl (PW_i ⟨rfl, rfl, fun x hx => by rw [cpI_ne (by omega), upI_ne (by omega), upI_ne (by omega), upI_ne (by omega), upI_ne (by omega), cpI_ne (by omega), cpI_ne (by omega), upI_ne (by omega), upI_ne (by omega), cpI_ne (by omega), cpI_ne (by omega), cpI_ne (by omega), cpI_ne (by omega), upI_ne (by omega), cpI_ne (by omega), cpI_ne (by omega), upI_ne (by omega)], ⟨rfl, rfl, rfl, rfl⟩, ⟨rfl, rfl, rfl, rfl⟩, fun k hk => ⟨(by show va_cpy (mi 21) (mi 9) 0 0 10 k = _; exact cp_r hk), (by show va_cpy (mi 22) (mi 10) 0 0 10 k = _; exact cp_r hk)⟩, fun k hk => ⟨(by show va_cpy (mi 23) (mi 11) 0 0 8 k = _; exact cp_r hk), (by show va_cpy (mi 24) (mi 12) 0 0 8 k = _; exact cp_r hk), (by show va_cpy (mi 25) (mi 13) 0 0 8 k = _; exact cp_r hk), (by show va_cpy (mi 26) (mi 14) 0 0 8 k = _; exact cp_r hk)⟩, fun k hk => ⟨(by show va_cpy (mi 27) (mi 15) 0 0 6 k = _; exact cp_r hk), (by show va_cpy (mi 28) (mi 16) 0 0 6 k = _; exact cp_r hk)⟩, fun k hk => (by show va_cpy (mi 30) (mi 18) 0 0 3 k = _; exact cp_r hk)⟩)

theorem lp_ba20_8 {d : Nat} {sh : List Sh} {mi : MI} {mr : MR} (hF : SHC sh) (hB : CB mr) (h0 : TxR sh mr 8) {Q : QT} (hq : WP (d + 1) mX9_becomeAs 178 [.ref 20, .ref 8, .int (nI 14)] [] sh mi (tcp mr 20 8 14) 0 0 Q) :
    ∀ (k i : Nat), i + k = 14 → WP (d + 1) mX9_becomeAs 154 [.ref 20, .ref 8, .int (nI i)] [] sh mi (tcp mr 20 8 i) 0 0 Q := by
  intro k
  induction k with
  | zero =>
    intro i hk
    obtain rfl : i = 14 := by omega
    refine r_iload_n (μ := mX9_becomeAs) (pc := 154) dX9_becomeAs_154 rfl rfl ?_
    refine r_bipush (μ := mX9_becomeAs) (pc := 155) (v := 14) dX9_becomeAs_155 bp_14 ?_
    refine r_icmp_ge (μ := mX9_becomeAs) (pc := 157) (tgt := 178) dX9_becomeAs_157 (by decide) (fun h_157 => ?_) (fun h_157 => absurd (nI_le (a := 14) (b := 14) (Nat.le_refl _) (by decide)) h_157)
    exact hq
  | succ k ih =>
    intro i hk
    have hBt : ∀ a k c, ctab a k = some c → a ≠ 29 → tcp mr 20 8 i a k = some c := fun a k c h1 h2 => by rw [tcp_ne h2]; exact hB a k c h1
    cases hx : mr 17 i with
    | none =>
      refine r_iload_n (μ := mX9_becomeAs) (pc := 154) dX9_becomeAs_154 rfl rfl ?_
      refine r_bipush (μ := mX9_becomeAs) (pc := 155) (v := 14) dX9_becomeAs_155 bp_14 ?_
      refine r_icmp_ge (μ := mX9_becomeAs) (pc := 157) (tgt := 178) dX9_becomeAs_157 (by decide) (fun h_157 => absurd h_157 (nI_ge (b := 14) (by omega) (by decide))) (fun h_157 => ?_)
      refine r_aload_n (μ := mX9_becomeAs) (pc := 160) dX9_becomeAs_160 rfl rfl rfl ?_
      refine r_getR (μ := mX9_becomeAs) (pc := 161) dX9_becomeAs_161 fpX9_63 rfl (hF _ _ rfl) (by decide) (hBt _ _ _ rfl (by decide)) ?_
      refine r_iload_n (μ := mX9_becomeAs) (pc := 164) dX9_becomeAs_164 rfl rfl ?_
      refine r_aload_n (μ := mX9_becomeAs) (pc := 165) dX9_becomeAs_165 rfl rfl rfl ?_
      refine r_getR (μ := mX9_becomeAs) (pc := 166) dX9_becomeAs_166 fpX9_63 rfl (hF _ _ rfl) (by decide) (hBt _ _ _ rfl (by decide)) ?_
      refine r_iload_n (μ := mX9_becomeAs) (pc := 169) dX9_becomeAs_169 rfl rfl ?_
      refine r_aaloadN (μ := mX9_becomeAs) (pc := 170) (t := 2) dX9_becomeAs_170 (by decide) (hF _ _ rfl) rfl (by omega) (by decide) (by rw [tcp_ne (by decide)]; exact hx) ?_
      refine r_aastoreN (μ := mX9_becomeAs) (pc := 171) (j := i) dX9_becomeAs_171 (hF _ _ rfl) rfl (by omega) (by decide) ?_
      refine s_iinc (μ := mX9_becomeAs) (pc := 172) (c := 1) (L2 := [_, _, _]) dX9_becomeAs_172 rfl ic_1 (Nat.le_of_ble_eq_true rfl) rfl rfl ?_
      refine r_goto (μ := mX9_becomeAs) (pc := 175) (tgt := 154) dX9_becomeAs_175 (by decide) ?_
      have e : upR (tcp mr 20 8 i) 29 i none = tcp mr 20 8 (i + 1) := by rw [← hx]; exact tcp_s mr 20 8 i
      rw [e]
      exact WP.L (by rw [nI_succ]) (ih (i + 1) (by omega))
    | some a =>
      obtain ⟨ha1, ha2⟩ := h0 i (by omega) a hx
      refine r_iload_n (μ := mX9_becomeAs) (pc := 154) dX9_becomeAs_154 rfl rfl ?_
      refine r_bipush (μ := mX9_becomeAs) (pc := 155) (v := 14) dX9_becomeAs_155 bp_14 ?_
      refine r_icmp_ge (μ := mX9_becomeAs) (pc := 157) (tgt := 178) dX9_becomeAs_157 (by decide) (fun h_157 => absurd h_157 (nI_ge (b := 14) (by omega) (by decide))) (fun h_157 => ?_)
      refine r_aload_n (μ := mX9_becomeAs) (pc := 160) dX9_becomeAs_160 rfl rfl rfl ?_
      refine r_getR (μ := mX9_becomeAs) (pc := 161) dX9_becomeAs_161 fpX9_63 rfl (hF _ _ rfl) (by decide) (hBt _ _ _ rfl (by decide)) ?_
      refine r_iload_n (μ := mX9_becomeAs) (pc := 164) dX9_becomeAs_164 rfl rfl ?_
      refine r_aload_n (μ := mX9_becomeAs) (pc := 165) dX9_becomeAs_165 rfl rfl rfl ?_
      refine r_getR (μ := mX9_becomeAs) (pc := 166) dX9_becomeAs_166 fpX9_63 rfl (hF _ _ rfl) (by decide) (hBt _ _ _ rfl (by decide)) ?_
      refine r_iload_n (μ := mX9_becomeAs) (pc := 169) dX9_becomeAs_169 rfl rfl ?_
      refine r_aaload (μ := mX9_becomeAs) (pc := 170) (t := 2) dX9_becomeAs_170 (by decide) (hF _ _ rfl) rfl (by omega) (by decide) (by rw [tcp_ne (by decide)]; exact hx) ?_
      refine r_aastore (μ := mX9_becomeAs) (pc := 171) (t := 2) (j := i) (c0 := 8) dX9_becomeAs_171 (by decide) (hF _ _ rfl) rfl (by omega) (by decide) ha2 rfl (Or.inl rfl) ?_
      refine s_iinc (μ := mX9_becomeAs) (pc := 172) (c := 1) (L2 := [_, _, _]) dX9_becomeAs_172 rfl ic_1 (Nat.le_of_ble_eq_true rfl) rfl rfl ?_
      refine r_goto (μ := mX9_becomeAs) (pc := 175) (tgt := 154) dX9_becomeAs_175 (by decide) ?_
      have e : upR (tcp mr 20 8 i) 29 i (some a) = tcp mr 20 8 (i + 1) := by rw [← hx]; exact tcp_s mr 20 8 i
      rw [e]
      exact WP.L (by rw [nI_succ]) (ih (i + 1) (by omega))

theorem lq_ba20_8 {d : Nat} {sh : List Sh} {mi : MI} {mr : MR} (hF : SHC sh) (hB : CB mr) (h0 : TxR sh mr 8) {Q : QT} (hq : WP (d + 1) mX9_becomeAs 178 [.ref 20, .ref 8, .int (nI 14)] [] sh mi (tcp mr 20 8 14) 0 0 Q) : WP (d + 1) mX9_becomeAs 154 [.ref 20, .ref 8, .int 0] [] sh mi mr 0 0 Q := by
  have h := lp_ba20_8 hF hB h0 hq 14 0 (Nat.zero_add _)
  rw [tcp_0] at h
  exact h

theorem k_ba20_8 {d : Nat} {sh : List Sh} {mi : MI} {mr : MR} (hF : SHC sh) (hB : CB mr) (h0 : TxR sh mr 8) : CP (d + 1) mX9_becomeAs [.ref 20, .ref 8] sh mi mr 0 0 (PW (fun sh2 mi2 mr2 => sh2 = sh ∧ mr2 = tcp mr 20 8 14 ∧ BA mi mi2 20 8)) := by
  refine CP.of (L := [_, _, _]) (by decide) rfl rfl (Nat.le_of_ble_eq_true rfl) ?_
  refine r_aload_n (μ := mX9_becomeAs) (pc := 0) dX9_becomeAs_0 rfl rfl rfl ?_
  refine r_aload_n (μ := mX9_becomeAs) (pc := 1) dX9_becomeAs_1 rfl rfl rfl ?_
  refine r_getI (μ := mX9_becomeAs) (pc := 2) dX9_becomeAs_2 fpX9_9 rfl (hF _ _ rfl) (by decide) ?_
  refine r_putI (μ := mX9_becomeAs) (pc := 5) dX9_becomeAs_5 fwX9_9 (hF _ _ rfl) (by decide) rfl ?_
  refine r_aload_n (μ := mX9_becomeAs) (pc := 8) dX9_becomeAs_8 rfl rfl rfl ?_
  refine r_getR (μ := mX9_becomeAs) (pc := 9) dX9_becomeAs_9 fpX9_15 rfl (hF _ _ rfl) (by decide) (hB _ _ _ rfl) ?_
  refine r_aload_n (μ := mX9_becomeAs) (pc := 12) dX9_becomeAs_12 rfl rfl rfl ?_
  refine r_getR (μ := mX9_becomeAs) (pc := 13) dX9_becomeAs_13 fpX9_15 rfl (hF _ _ rfl) (by decide) (hB _ _ _ rfl) ?_
  refine sV2 (μ := mX9_becomeAs) (pc := 16) (μ2 := mX9_copyRow) dX9_becomeAs_16 lkX9_77 stX9_copyRow mwX9_copyRow (Nat.le_of_ble_eq_true rfl) (k_copyRow (hF _ _ rfl) (hF _ _ rfl) (by decide)) (fun mi_16 h_16 => ?_)
  subst h_16
  refine r_aload_n (μ := mX9_becomeAs) (pc := 19) dX9_becomeAs_19 rfl rfl rfl ?_
  refine r_getR (μ := mX9_becomeAs) (pc := 20) dX9_becomeAs_20 fpX9_19 rfl (hF _ _ rfl) (by decide) (hB _ _ _ rfl) ?_
  refine r_aload_n (μ := mX9_becomeAs) (pc := 23) dX9_becomeAs_23 rfl rfl rfl ?_
  refine r_getR (μ := mX9_becomeAs) (pc := 24) dX9_becomeAs_24 fpX9_19 rfl (hF _ _ rfl) (by decide) (hB _ _ _ rfl) ?_
  refine sV2 (μ := mX9_becomeAs) (pc := 27) (μ2 := mX9_copyRow) dX9_becomeAs_27 lkX9_77 stX9_copyRow mwX9_copyRow (Nat.le_of_ble_eq_true rfl) (k_copyRow (hF _ _ rfl) (hF _ _ rfl) (by decide)) (fun mi_27 h_27 => ?_)
  subst h_27
  refine r_aload_n (μ := mX9_becomeAs) (pc := 30) dX9_becomeAs_30 rfl rfl rfl ?_
  refine r_aload_n (μ := mX9_becomeAs) (pc := 31) dX9_becomeAs_31 rfl rfl rfl ?_
  refine r_getI (μ := mX9_becomeAs) (pc := 32) dX9_becomeAs_32 fpX9_22 rfl (hF _ _ rfl) (by decide) ?_
  refine r_putI (μ := mX9_becomeAs) (pc := 35) dX9_becomeAs_35 fwX9_22 (hF _ _ rfl) (by decide) rfl ?_
  refine r_aload_n (μ := mX9_becomeAs) (pc := 38) dX9_becomeAs_38 rfl rfl rfl ?_
  refine r_getR (μ := mX9_becomeAs) (pc := 39) dX9_becomeAs_39 fpX9_25 rfl (hF _ _ rfl) (by decide) (hB _ _ _ rfl) ?_
  refine r_aload_n (μ := mX9_becomeAs) (pc := 42) dX9_becomeAs_42 rfl rfl rfl ?_
  refine r_getR (μ := mX9_becomeAs) (pc := 43) dX9_becomeAs_43 fpX9_25 rfl (hF _ _ rfl) (by decide) (hB _ _ _ rfl) ?_
  refine sV2 (μ := mX9_becomeAs) (pc := 46) (μ2 := mX9_copyRow) dX9_becomeAs_46 lkX9_77 stX9_copyRow mwX9_copyRow (Nat.le_of_ble_eq_true rfl) (k_copyRow (hF _ _ rfl) (hF _ _ rfl) (by decide)) (fun mi_46 h_46 => ?_)
  subst h_46
  refine r_aload_n (μ := mX9_becomeAs) (pc := 49) dX9_becomeAs_49 rfl rfl rfl ?_
  refine r_getR (μ := mX9_becomeAs) (pc := 50) dX9_becomeAs_50 fpX9_28 rfl (hF _ _ rfl) (by decide) (hB _ _ _ rfl) ?_
  refine r_aload_n (μ := mX9_becomeAs) (pc := 53) dX9_becomeAs_53 rfl rfl rfl ?_
  refine r_getR (μ := mX9_becomeAs) (pc := 54) dX9_becomeAs_54 fpX9_28 rfl (hF _ _ rfl) (by decide) (hB _ _ _ rfl) ?_
  refine sV2 (μ := mX9_becomeAs) (pc := 57) (μ2 := mX9_copyRow) dX9_becomeAs_57 lkX9_77 stX9_copyRow mwX9_copyRow (Nat.le_of_ble_eq_true rfl) (k_copyRow (hF _ _ rfl) (hF _ _ rfl) (by decide)) (fun mi_57 h_57 => ?_)
  subst h_57
  refine r_aload_n (μ := mX9_becomeAs) (pc := 60) dX9_becomeAs_60 rfl rfl rfl ?_
  refine r_getR (μ := mX9_becomeAs) (pc := 61) dX9_becomeAs_61 fpX9_31 rfl (hF _ _ rfl) (by decide) (hB _ _ _ rfl) ?_
  refine r_aload_n (μ := mX9_becomeAs) (pc := 64) dX9_becomeAs_64 rfl rfl rfl ?_
  refine r_getR (μ := mX9_becomeAs) (pc := 65) dX9_becomeAs_65 fpX9_31 rfl (hF _ _ rfl) (by decide) (hB _ _ _ rfl) ?_
  refine sV2 (μ := mX9_becomeAs) (pc := 68) (μ2 := mX9_copyRow) dX9_becomeAs_68 lkX9_77 stX9_copyRow mwX9_copyRow (Nat.le_of_ble_eq_true rfl) (k_copyRow (hF _ _ rfl) (hF _ _ rfl) (by decide)) (fun mi_68 h_68 => ?_)
  subst h_68
  refine r_aload_n (μ := mX9_becomeAs) (pc := 71) dX9_becomeAs_71 rfl rfl rfl ?_
  refine r_getR (μ := mX9_becomeAs) (pc := 72) dX9_becomeAs_72 fpX9_34 rfl (hF _ _ rfl) (by decide) (hB _ _ _ rfl) ?_
  refine r_aload_n (μ := mX9_becomeAs) (pc := 75) dX9_becomeAs_75 rfl rfl rfl ?_
  refine r_getR (μ := mX9_becomeAs) (pc := 76) dX9_becomeAs_76 fpX9_34 rfl (hF _ _ rfl) (by decide) (hB _ _ _ rfl) ?_
  refine sV2 (μ := mX9_becomeAs) (pc := 79) (μ2 := mX9_copyRow) dX9_becomeAs_79 lkX9_77 stX9_copyRow mwX9_copyRow (Nat.le_of_ble_eq_true rfl) (k_copyRow (hF _ _ rfl) (hF _ _ rfl) (by decide)) (fun mi_79 h_79 => ?_)
  subst h_79
  refine r_aload_n (μ := mX9_becomeAs) (pc := 82) dX9_becomeAs_82 rfl rfl rfl ?_
  refine r_aload_n (μ := mX9_becomeAs) (pc := 83) dX9_becomeAs_83 rfl rfl rfl ?_
  refine r_getI (μ := mX9_becomeAs) (pc := 84) dX9_becomeAs_84 fpX9_37 rfl (hF _ _ rfl) (by decide) ?_
  refine r_putI (μ := mX9_becomeAs) (pc := 87) dX9_becomeAs_87 fwX9_37 (hF _ _ rfl) (by decide) rfl ?_
  refine r_aload_n (μ := mX9_becomeAs) (pc := 90) dX9_becomeAs_90 rfl rfl rfl ?_
  refine r_aload_n (μ := mX9_becomeAs) (pc := 91) dX9_becomeAs_91 rfl rfl rfl ?_
  refine r_getI (μ := mX9_becomeAs) (pc := 92) dX9_becomeAs_92 fpX9_40 rfl (hF _ _ rfl) (by decide) ?_
  refine r_putI (μ := mX9_becomeAs) (pc := 95) dX9_becomeAs_95 fwX9_40 (hF _ _ rfl) (by decide) rfl ?_
  refine r_aload_n (μ := mX9_becomeAs) (pc := 98) dX9_becomeAs_98 rfl rfl rfl ?_
  refine r_getR (μ := mX9_becomeAs) (pc := 99) dX9_becomeAs_99 fpX9_43 rfl (hF _ _ rfl) (by decide) (hB _ _ _ rfl) ?_
  refine r_aload_n (μ := mX9_becomeAs) (pc := 102) dX9_becomeAs_102 rfl rfl rfl ?_
  refine r_getR (μ := mX9_becomeAs) (pc := 103) dX9_becomeAs_103 fpX9_43 rfl (hF _ _ rfl) (by decide) (hB _ _ _ rfl) ?_
  refine sV2 (μ := mX9_becomeAs) (pc := 106) (μ2 := mX9_copyRow) dX9_becomeAs_106 lkX9_77 stX9_copyRow mwX9_copyRow (Nat.le_of_ble_eq_true rfl) (k_copyRow (hF _ _ rfl) (hF _ _ rfl) (by decide)) (fun mi_106 h_106 => ?_)
  subst h_106
  refine r_aload_n (μ := mX9_becomeAs) (pc := 109) dX9_becomeAs_109 rfl rfl rfl ?_
  refine r_getR (μ := mX9_becomeAs) (pc := 110) dX9_becomeAs_110 fpX9_46 rfl (hF _ _ rfl) (by decide) (hB _ _ _ rfl) ?_
  refine r_aload_n (μ := mX9_becomeAs) (pc := 113) dX9_becomeAs_113 rfl rfl rfl ?_
  refine r_getR (μ := mX9_becomeAs) (pc := 114) dX9_becomeAs_114 fpX9_46 rfl (hF _ _ rfl) (by decide) (hB _ _ _ rfl) ?_
  refine sV2 (μ := mX9_becomeAs) (pc := 117) (μ2 := mX9_copyRow) dX9_becomeAs_117 lkX9_77 stX9_copyRow mwX9_copyRow (Nat.le_of_ble_eq_true rfl) (k_copyRow (hF _ _ rfl) (hF _ _ rfl) (by decide)) (fun mi_117 h_117 => ?_)
  subst h_117
  refine r_aload_n (μ := mX9_becomeAs) (pc := 120) dX9_becomeAs_120 rfl rfl rfl ?_
  refine r_aload_n (μ := mX9_becomeAs) (pc := 121) dX9_becomeAs_121 rfl rfl rfl ?_
  refine r_getI (μ := mX9_becomeAs) (pc := 122) dX9_becomeAs_122 fpX9_49 rfl (hF _ _ rfl) (by decide) ?_
  refine r_putI (μ := mX9_becomeAs) (pc := 125) dX9_becomeAs_125 fwX9_49 (hF _ _ rfl) (by decide) rfl ?_
  refine r_aload_n (μ := mX9_becomeAs) (pc := 128) dX9_becomeAs_128 rfl rfl rfl ?_
  refine r_aload_n (μ := mX9_becomeAs) (pc := 129) dX9_becomeAs_129 rfl rfl rfl ?_
  refine r_getI (μ := mX9_becomeAs) (pc := 130) dX9_becomeAs_130 fpX9_52 rfl (hF _ _ rfl) (by decide) ?_
  refine r_putI (μ := mX9_becomeAs) (pc := 133) dX9_becomeAs_133 fwX9_52 (hF _ _ rfl) (by decide) rfl ?_
  refine r_aload_n (μ := mX9_becomeAs) (pc := 136) dX9_becomeAs_136 rfl rfl rfl ?_
  refine r_aload_n (μ := mX9_becomeAs) (pc := 137) dX9_becomeAs_137 rfl rfl rfl ?_
  refine r_getI (μ := mX9_becomeAs) (pc := 138) dX9_becomeAs_138 fpX9_55 rfl (hF _ _ rfl) (by decide) ?_
  refine r_putI (μ := mX9_becomeAs) (pc := 141) dX9_becomeAs_141 fwX9_55 (hF _ _ rfl) (by decide) rfl ?_
  refine r_aload_n (μ := mX9_becomeAs) (pc := 144) dX9_becomeAs_144 rfl rfl rfl ?_
  refine r_aload_n (μ := mX9_becomeAs) (pc := 145) dX9_becomeAs_145 rfl rfl rfl ?_
  refine r_getI (μ := mX9_becomeAs) (pc := 146) dX9_becomeAs_146 fpX9_58 rfl (hF _ _ rfl) (by decide) ?_
  refine r_putI (μ := mX9_becomeAs) (pc := 149) dX9_becomeAs_149 fwX9_58 (hF _ _ rfl) (by decide) rfl ?_
  refine r_iconst (μ := mX9_becomeAs) (pc := 152) (v := 0) dX9_becomeAs_152 ic_0 ?_
  refine s_istore_n (μ := mX9_becomeAs) (pc := 153) (L2 := [_, _, _]) dX9_becomeAs_153 rfl (Nat.le_of_ble_eq_true rfl) (Nat.le_of_ble_eq_true rfl) rfl rfl ?_
  refine lq_ba20_8 hF hB h0 ?_
  have hBt : ∀ a k c, ctab a k = some c → a ≠ 29 → tcp mr 20 8 14 a k = some c := fun a k c h1 h2 => by rw [tcp_ne h2]; exact hB a k c h1
  refine r_aload_n (μ := mX9_becomeAs) (pc := 178) dX9_becomeAs_178 rfl rfl rfl ?_
  refine r_getR (μ := mX9_becomeAs) (pc := 179) dX9_becomeAs_179 fpX9_67 rfl (hF _ _ rfl) (by decide) (hBt _ _ _ rfl (by decide)) ?_
  refine r_aload_n (μ := mX9_becomeAs) (pc := 182) dX9_becomeAs_182 rfl rfl rfl ?_
  refine r_getR (μ := mX9_becomeAs) (pc := 183) dX9_becomeAs_183 fpX9_67 rfl (hF _ _ rfl) (by decide) (hBt _ _ _ rfl (by decide)) ?_
  refine sV2 (μ := mX9_becomeAs) (pc := 186) (μ2 := mX9_copyRow) dX9_becomeAs_186 lkX9_77 stX9_copyRow mwX9_copyRow (Nat.le_of_ble_eq_true rfl) (k_copyRow (hF _ _ rfl) (hF _ _ rfl) (by decide)) (fun mi_186 h_186 => ?_)
  subst h_186
  exact r_vret (μ := mX9_becomeAs) (pc := 189) dX9_becomeAs_189 rfl (PW_i ⟨rfl, rfl, fun x hx => by rw [cpI_ne (by omega), upI_ne (by omega), upI_ne (by omega), upI_ne (by omega), upI_ne (by omega), cpI_ne (by omega), cpI_ne (by omega), upI_ne (by omega), upI_ne (by omega), cpI_ne (by omega), cpI_ne (by omega), cpI_ne (by omega), cpI_ne (by omega), upI_ne (by omega), cpI_ne (by omega), cpI_ne (by omega), upI_ne (by omega)], ⟨rfl, rfl, rfl, rfl⟩, ⟨rfl, rfl, rfl, rfl⟩, fun k hk => ⟨(by show va_cpy (mi 9) (mi 21) 0 0 10 k = _; exact cp_r hk), (by show va_cpy (mi 10) (mi 22) 0 0 10 k = _; exact cp_r hk)⟩, fun k hk => ⟨(by show va_cpy (mi 11) (mi 23) 0 0 8 k = _; exact cp_r hk), (by show va_cpy (mi 12) (mi 24) 0 0 8 k = _; exact cp_r hk), (by show va_cpy (mi 13) (mi 25) 0 0 8 k = _; exact cp_r hk), (by show va_cpy (mi 14) (mi 26) 0 0 8 k = _; exact cp_r hk)⟩, fun k hk => ⟨(by show va_cpy (mi 15) (mi 27) 0 0 6 k = _; exact cp_r hk), (by show va_cpy (mi 16) (mi 28) 0 0 6 k = _; exact cp_r hk)⟩, fun k hk => (by show va_cpy (mi 18) (mi 30) 0 0 3 k = _; exact cp_r hk)⟩)

theorem lp_ba32_20 {d : Nat} {sh : List Sh} {mi : MI} {mr : MR} (hF : SHC sh) (hB : CB mr) (h0 : TxR sh mr 20) {Q : QT} (hq : WP (d + 1) mX9_becomeAs 178 [.ref 32, .ref 20, .int (nI 14)] [] sh mi (tcp mr 32 20 14) 0 0 Q) :
    ∀ (k i : Nat), i + k = 14 → WP (d + 1) mX9_becomeAs 154 [.ref 32, .ref 20, .int (nI i)] [] sh mi (tcp mr 32 20 i) 0 0 Q := by
  intro k
  induction k with
  | zero =>
    intro i hk
    obtain rfl : i = 14 := by omega
    refine r_iload_n (μ := mX9_becomeAs) (pc := 154) dX9_becomeAs_154 rfl rfl ?_
    refine r_bipush (μ := mX9_becomeAs) (pc := 155) (v := 14) dX9_becomeAs_155 bp_14 ?_
    refine r_icmp_ge (μ := mX9_becomeAs) (pc := 157) (tgt := 178) dX9_becomeAs_157 (by decide) (fun h_157 => ?_) (fun h_157 => absurd (nI_le (a := 14) (b := 14) (Nat.le_refl _) (by decide)) h_157)
    exact hq
  | succ k ih =>
    intro i hk
    have hBt : ∀ a k c, ctab a k = some c → a ≠ 41 → tcp mr 32 20 i a k = some c := fun a k c h1 h2 => by rw [tcp_ne h2]; exact hB a k c h1
    cases hx : mr 29 i with
    | none =>
      refine r_iload_n (μ := mX9_becomeAs) (pc := 154) dX9_becomeAs_154 rfl rfl ?_
      refine r_bipush (μ := mX9_becomeAs) (pc := 155) (v := 14) dX9_becomeAs_155 bp_14 ?_
      refine r_icmp_ge (μ := mX9_becomeAs) (pc := 157) (tgt := 178) dX9_becomeAs_157 (by decide) (fun h_157 => absurd h_157 (nI_ge (b := 14) (by omega) (by decide))) (fun h_157 => ?_)
      refine r_aload_n (μ := mX9_becomeAs) (pc := 160) dX9_becomeAs_160 rfl rfl rfl ?_
      refine r_getR (μ := mX9_becomeAs) (pc := 161) dX9_becomeAs_161 fpX9_63 rfl (hF _ _ rfl) (by decide) (hBt _ _ _ rfl (by decide)) ?_
      refine r_iload_n (μ := mX9_becomeAs) (pc := 164) dX9_becomeAs_164 rfl rfl ?_
      refine r_aload_n (μ := mX9_becomeAs) (pc := 165) dX9_becomeAs_165 rfl rfl rfl ?_
      refine r_getR (μ := mX9_becomeAs) (pc := 166) dX9_becomeAs_166 fpX9_63 rfl (hF _ _ rfl) (by decide) (hBt _ _ _ rfl (by decide)) ?_
      refine r_iload_n (μ := mX9_becomeAs) (pc := 169) dX9_becomeAs_169 rfl rfl ?_
      refine r_aaloadN (μ := mX9_becomeAs) (pc := 170) (t := 2) dX9_becomeAs_170 (by decide) (hF _ _ rfl) rfl (by omega) (by decide) (by rw [tcp_ne (by decide)]; exact hx) ?_
      refine r_aastoreN (μ := mX9_becomeAs) (pc := 171) (j := i) dX9_becomeAs_171 (hF _ _ rfl) rfl (by omega) (by decide) ?_
      refine s_iinc (μ := mX9_becomeAs) (pc := 172) (c := 1) (L2 := [_, _, _]) dX9_becomeAs_172 rfl ic_1 (Nat.le_of_ble_eq_true rfl) rfl rfl ?_
      refine r_goto (μ := mX9_becomeAs) (pc := 175) (tgt := 154) dX9_becomeAs_175 (by decide) ?_
      have e : upR (tcp mr 32 20 i) 41 i none = tcp mr 32 20 (i + 1) := by rw [← hx]; exact tcp_s mr 32 20 i
      rw [e]
      exact WP.L (by rw [nI_succ]) (ih (i + 1) (by omega))
    | some a =>
      obtain ⟨ha1, ha2⟩ := h0 i (by omega) a hx
      refine r_iload_n (μ := mX9_becomeAs) (pc := 154) dX9_becomeAs_154 rfl rfl ?_
      refine r_bipush (μ := mX9_becomeAs) (pc := 155) (v := 14) dX9_becomeAs_155 bp_14 ?_
      refine r_icmp_ge (μ := mX9_becomeAs) (pc := 157) (tgt := 178) dX9_becomeAs_157 (by decide) (fun h_157 => absurd h_157 (nI_ge (b := 14) (by omega) (by decide))) (fun h_157 => ?_)
      refine r_aload_n (μ := mX9_becomeAs) (pc := 160) dX9_becomeAs_160 rfl rfl rfl ?_
      refine r_getR (μ := mX9_becomeAs) (pc := 161) dX9_becomeAs_161 fpX9_63 rfl (hF _ _ rfl) (by decide) (hBt _ _ _ rfl (by decide)) ?_
      refine r_iload_n (μ := mX9_becomeAs) (pc := 164) dX9_becomeAs_164 rfl rfl ?_
      refine r_aload_n (μ := mX9_becomeAs) (pc := 165) dX9_becomeAs_165 rfl rfl rfl ?_
      refine r_getR (μ := mX9_becomeAs) (pc := 166) dX9_becomeAs_166 fpX9_63 rfl (hF _ _ rfl) (by decide) (hBt _ _ _ rfl (by decide)) ?_
      refine r_iload_n (μ := mX9_becomeAs) (pc := 169) dX9_becomeAs_169 rfl rfl ?_
      refine r_aaload (μ := mX9_becomeAs) (pc := 170) (t := 2) dX9_becomeAs_170 (by decide) (hF _ _ rfl) rfl (by omega) (by decide) (by rw [tcp_ne (by decide)]; exact hx) ?_
      refine r_aastore (μ := mX9_becomeAs) (pc := 171) (t := 2) (j := i) (c0 := 8) dX9_becomeAs_171 (by decide) (hF _ _ rfl) rfl (by omega) (by decide) ha2 rfl (Or.inl rfl) ?_
      refine s_iinc (μ := mX9_becomeAs) (pc := 172) (c := 1) (L2 := [_, _, _]) dX9_becomeAs_172 rfl ic_1 (Nat.le_of_ble_eq_true rfl) rfl rfl ?_
      refine r_goto (μ := mX9_becomeAs) (pc := 175) (tgt := 154) dX9_becomeAs_175 (by decide) ?_
      have e : upR (tcp mr 32 20 i) 41 i (some a) = tcp mr 32 20 (i + 1) := by rw [← hx]; exact tcp_s mr 32 20 i
      rw [e]
      exact WP.L (by rw [nI_succ]) (ih (i + 1) (by omega))

theorem lq_ba32_20 {d : Nat} {sh : List Sh} {mi : MI} {mr : MR} (hF : SHC sh) (hB : CB mr) (h0 : TxR sh mr 20) {Q : QT} (hq : WP (d + 1) mX9_becomeAs 178 [.ref 32, .ref 20, .int (nI 14)] [] sh mi (tcp mr 32 20 14) 0 0 Q) : WP (d + 1) mX9_becomeAs 154 [.ref 32, .ref 20, .int 0] [] sh mi mr 0 0 Q := by
  have h := lp_ba32_20 hF hB h0 hq 14 0 (Nat.zero_add _)
  rw [tcp_0] at h
  exact h

theorem k_ba32_20 {d : Nat} {sh : List Sh} {mi : MI} {mr : MR} (hF : SHC sh) (hB : CB mr) (h0 : TxR sh mr 20) : CP (d + 1) mX9_becomeAs [.ref 32, .ref 20] sh mi mr 0 0 (PW (fun sh2 mi2 mr2 => sh2 = sh ∧ mr2 = tcp mr 32 20 14 ∧ BA mi mi2 32 20)) := by
  refine CP.of (L := [_, _, _]) (by decide) rfl rfl (Nat.le_of_ble_eq_true rfl) ?_
  refine r_aload_n (μ := mX9_becomeAs) (pc := 0) dX9_becomeAs_0 rfl rfl rfl ?_
  refine r_aload_n (μ := mX9_becomeAs) (pc := 1) dX9_becomeAs_1 rfl rfl rfl ?_
  refine r_getI (μ := mX9_becomeAs) (pc := 2) dX9_becomeAs_2 fpX9_9 rfl (hF _ _ rfl) (by decide) ?_
  refine r_putI (μ := mX9_becomeAs) (pc := 5) dX9_becomeAs_5 fwX9_9 (hF _ _ rfl) (by decide) rfl ?_
  refine r_aload_n (μ := mX9_becomeAs) (pc := 8) dX9_becomeAs_8 rfl rfl rfl ?_
  refine r_getR (μ := mX9_becomeAs) (pc := 9) dX9_becomeAs_9 fpX9_15 rfl (hF _ _ rfl) (by decide) (hB _ _ _ rfl) ?_
  refine r_aload_n (μ := mX9_becomeAs) (pc := 12) dX9_becomeAs_12 rfl rfl rfl ?_
  refine r_getR (μ := mX9_becomeAs) (pc := 13) dX9_becomeAs_13 fpX9_15 rfl (hF _ _ rfl) (by decide) (hB _ _ _ rfl) ?_
  refine sV2 (μ := mX9_becomeAs) (pc := 16) (μ2 := mX9_copyRow) dX9_becomeAs_16 lkX9_77 stX9_copyRow mwX9_copyRow (Nat.le_of_ble_eq_true rfl) (k_copyRow (hF _ _ rfl) (hF _ _ rfl) (by decide)) (fun mi_16 h_16 => ?_)
  subst h_16
  refine r_aload_n (μ := mX9_becomeAs) (pc := 19) dX9_becomeAs_19 rfl rfl rfl ?_
  refine r_getR (μ := mX9_becomeAs) (pc := 20) dX9_becomeAs_20 fpX9_19 rfl (hF _ _ rfl) (by decide) (hB _ _ _ rfl) ?_
  refine r_aload_n (μ := mX9_becomeAs) (pc := 23) dX9_becomeAs_23 rfl rfl rfl ?_
  refine r_getR (μ := mX9_becomeAs) (pc := 24) dX9_becomeAs_24 fpX9_19 rfl (hF _ _ rfl) (by decide) (hB _ _ _ rfl) ?_
  refine sV2 (μ := mX9_becomeAs) (pc := 27) (μ2 := mX9_copyRow) dX9_becomeAs_27 lkX9_77 stX9_copyRow mwX9_copyRow (Nat.le_of_ble_eq_true rfl) (k_copyRow (hF _ _ rfl) (hF _ _ rfl) (by decide)) (fun mi_27 h_27 => ?_)
  subst h_27
  refine r_aload_n (μ := mX9_becomeAs) (pc := 30) dX9_becomeAs_30 rfl rfl rfl ?_
  refine r_aload_n (μ := mX9_becomeAs) (pc := 31) dX9_becomeAs_31 rfl rfl rfl ?_
  refine r_getI (μ := mX9_becomeAs) (pc := 32) dX9_becomeAs_32 fpX9_22 rfl (hF _ _ rfl) (by decide) ?_
  refine r_putI (μ := mX9_becomeAs) (pc := 35) dX9_becomeAs_35 fwX9_22 (hF _ _ rfl) (by decide) rfl ?_
  refine r_aload_n (μ := mX9_becomeAs) (pc := 38) dX9_becomeAs_38 rfl rfl rfl ?_
  refine r_getR (μ := mX9_becomeAs) (pc := 39) dX9_becomeAs_39 fpX9_25 rfl (hF _ _ rfl) (by decide) (hB _ _ _ rfl) ?_
  refine r_aload_n (μ := mX9_becomeAs) (pc := 42) dX9_becomeAs_42 rfl rfl rfl ?_
  refine r_getR (μ := mX9_becomeAs) (pc := 43) dX9_becomeAs_43 fpX9_25 rfl (hF _ _ rfl) (by decide) (hB _ _ _ rfl) ?_
  refine sV2 (μ := mX9_becomeAs) (pc := 46) (μ2 := mX9_copyRow) dX9_becomeAs_46 lkX9_77 stX9_copyRow mwX9_copyRow (Nat.le_of_ble_eq_true rfl) (k_copyRow (hF _ _ rfl) (hF _ _ rfl) (by decide)) (fun mi_46 h_46 => ?_)
  subst h_46
  refine r_aload_n (μ := mX9_becomeAs) (pc := 49) dX9_becomeAs_49 rfl rfl rfl ?_
  refine r_getR (μ := mX9_becomeAs) (pc := 50) dX9_becomeAs_50 fpX9_28 rfl (hF _ _ rfl) (by decide) (hB _ _ _ rfl) ?_
  refine r_aload_n (μ := mX9_becomeAs) (pc := 53) dX9_becomeAs_53 rfl rfl rfl ?_
  refine r_getR (μ := mX9_becomeAs) (pc := 54) dX9_becomeAs_54 fpX9_28 rfl (hF _ _ rfl) (by decide) (hB _ _ _ rfl) ?_
  refine sV2 (μ := mX9_becomeAs) (pc := 57) (μ2 := mX9_copyRow) dX9_becomeAs_57 lkX9_77 stX9_copyRow mwX9_copyRow (Nat.le_of_ble_eq_true rfl) (k_copyRow (hF _ _ rfl) (hF _ _ rfl) (by decide)) (fun mi_57 h_57 => ?_)
  subst h_57
  refine r_aload_n (μ := mX9_becomeAs) (pc := 60) dX9_becomeAs_60 rfl rfl rfl ?_
  refine r_getR (μ := mX9_becomeAs) (pc := 61) dX9_becomeAs_61 fpX9_31 rfl (hF _ _ rfl) (by decide) (hB _ _ _ rfl) ?_
  refine r_aload_n (μ := mX9_becomeAs) (pc := 64) dX9_becomeAs_64 rfl rfl rfl ?_
  refine r_getR (μ := mX9_becomeAs) (pc := 65) dX9_becomeAs_65 fpX9_31 rfl (hF _ _ rfl) (by decide) (hB _ _ _ rfl) ?_
  refine sV2 (μ := mX9_becomeAs) (pc := 68) (μ2 := mX9_copyRow) dX9_becomeAs_68 lkX9_77 stX9_copyRow mwX9_copyRow (Nat.le_of_ble_eq_true rfl) (k_copyRow (hF _ _ rfl) (hF _ _ rfl) (by decide)) (fun mi_68 h_68 => ?_)
  subst h_68
  refine r_aload_n (μ := mX9_becomeAs) (pc := 71) dX9_becomeAs_71 rfl rfl rfl ?_
  refine r_getR (μ := mX9_becomeAs) (pc := 72) dX9_becomeAs_72 fpX9_34 rfl (hF _ _ rfl) (by decide) (hB _ _ _ rfl) ?_
  refine r_aload_n (μ := mX9_becomeAs) (pc := 75) dX9_becomeAs_75 rfl rfl rfl ?_
  refine r_getR (μ := mX9_becomeAs) (pc := 76) dX9_becomeAs_76 fpX9_34 rfl (hF _ _ rfl) (by decide) (hB _ _ _ rfl) ?_
  refine sV2 (μ := mX9_becomeAs) (pc := 79) (μ2 := mX9_copyRow) dX9_becomeAs_79 lkX9_77 stX9_copyRow mwX9_copyRow (Nat.le_of_ble_eq_true rfl) (k_copyRow (hF _ _ rfl) (hF _ _ rfl) (by decide)) (fun mi_79 h_79 => ?_)
  subst h_79
  refine r_aload_n (μ := mX9_becomeAs) (pc := 82) dX9_becomeAs_82 rfl rfl rfl ?_
  refine r_aload_n (μ := mX9_becomeAs) (pc := 83) dX9_becomeAs_83 rfl rfl rfl ?_
  refine r_getI (μ := mX9_becomeAs) (pc := 84) dX9_becomeAs_84 fpX9_37 rfl (hF _ _ rfl) (by decide) ?_
  refine r_putI (μ := mX9_becomeAs) (pc := 87) dX9_becomeAs_87 fwX9_37 (hF _ _ rfl) (by decide) rfl ?_
  refine r_aload_n (μ := mX9_becomeAs) (pc := 90) dX9_becomeAs_90 rfl rfl rfl ?_
  refine r_aload_n (μ := mX9_becomeAs) (pc := 91) dX9_becomeAs_91 rfl rfl rfl ?_
  refine r_getI (μ := mX9_becomeAs) (pc := 92) dX9_becomeAs_92 fpX9_40 rfl (hF _ _ rfl) (by decide) ?_
  refine r_putI (μ := mX9_becomeAs) (pc := 95) dX9_becomeAs_95 fwX9_40 (hF _ _ rfl) (by decide) rfl ?_
  refine r_aload_n (μ := mX9_becomeAs) (pc := 98) dX9_becomeAs_98 rfl rfl rfl ?_
  refine r_getR (μ := mX9_becomeAs) (pc := 99) dX9_becomeAs_99 fpX9_43 rfl (hF _ _ rfl) (by decide) (hB _ _ _ rfl) ?_
  refine r_aload_n (μ := mX9_becomeAs) (pc := 102) dX9_becomeAs_102 rfl rfl rfl ?_
  refine r_getR (μ := mX9_becomeAs) (pc := 103) dX9_becomeAs_103 fpX9_43 rfl (hF _ _ rfl) (by decide) (hB _ _ _ rfl) ?_
  refine sV2 (μ := mX9_becomeAs) (pc := 106) (μ2 := mX9_copyRow) dX9_becomeAs_106 lkX9_77 stX9_copyRow mwX9_copyRow (Nat.le_of_ble_eq_true rfl) (k_copyRow (hF _ _ rfl) (hF _ _ rfl) (by decide)) (fun mi_106 h_106 => ?_)
  subst h_106
  refine r_aload_n (μ := mX9_becomeAs) (pc := 109) dX9_becomeAs_109 rfl rfl rfl ?_
  refine r_getR (μ := mX9_becomeAs) (pc := 110) dX9_becomeAs_110 fpX9_46 rfl (hF _ _ rfl) (by decide) (hB _ _ _ rfl) ?_
  refine r_aload_n (μ := mX9_becomeAs) (pc := 113) dX9_becomeAs_113 rfl rfl rfl ?_
  refine r_getR (μ := mX9_becomeAs) (pc := 114) dX9_becomeAs_114 fpX9_46 rfl (hF _ _ rfl) (by decide) (hB _ _ _ rfl) ?_
  refine sV2 (μ := mX9_becomeAs) (pc := 117) (μ2 := mX9_copyRow) dX9_becomeAs_117 lkX9_77 stX9_copyRow mwX9_copyRow (Nat.le_of_ble_eq_true rfl) (k_copyRow (hF _ _ rfl) (hF _ _ rfl) (by decide)) (fun mi_117 h_117 => ?_)
  subst h_117
  refine r_aload_n (μ := mX9_becomeAs) (pc := 120) dX9_becomeAs_120 rfl rfl rfl ?_
  refine r_aload_n (μ := mX9_becomeAs) (pc := 121) dX9_becomeAs_121 rfl rfl rfl ?_
  refine r_getI (μ := mX9_becomeAs) (pc := 122) dX9_becomeAs_122 fpX9_49 rfl (hF _ _ rfl) (by decide) ?_
  refine r_putI (μ := mX9_becomeAs) (pc := 125) dX9_becomeAs_125 fwX9_49 (hF _ _ rfl) (by decide) rfl ?_
  refine r_aload_n (μ := mX9_becomeAs) (pc := 128) dX9_becomeAs_128 rfl rfl rfl ?_
  refine r_aload_n (μ := mX9_becomeAs) (pc := 129) dX9_becomeAs_129 rfl rfl rfl ?_
  refine r_getI (μ := mX9_becomeAs) (pc := 130) dX9_becomeAs_130 fpX9_52 rfl (hF _ _ rfl) (by decide) ?_
  refine r_putI (μ := mX9_becomeAs) (pc := 133) dX9_becomeAs_133 fwX9_52 (hF _ _ rfl) (by decide) rfl ?_
  refine r_aload_n (μ := mX9_becomeAs) (pc := 136) dX9_becomeAs_136 rfl rfl rfl ?_
  refine r_aload_n (μ := mX9_becomeAs) (pc := 137) dX9_becomeAs_137 rfl rfl rfl ?_
  refine r_getI (μ := mX9_becomeAs) (pc := 138) dX9_becomeAs_138 fpX9_55 rfl (hF _ _ rfl) (by decide) ?_
  refine r_putI (μ := mX9_becomeAs) (pc := 141) dX9_becomeAs_141 fwX9_55 (hF _ _ rfl) (by decide) rfl ?_
  refine r_aload_n (μ := mX9_becomeAs) (pc := 144) dX9_becomeAs_144 rfl rfl rfl ?_
  refine r_aload_n (μ := mX9_becomeAs) (pc := 145) dX9_becomeAs_145 rfl rfl rfl ?_
  refine r_getI (μ := mX9_becomeAs) (pc := 146) dX9_becomeAs_146 fpX9_58 rfl (hF _ _ rfl) (by decide) ?_
  refine r_putI (μ := mX9_becomeAs) (pc := 149) dX9_becomeAs_149 fwX9_58 (hF _ _ rfl) (by decide) rfl ?_
  refine r_iconst (μ := mX9_becomeAs) (pc := 152) (v := 0) dX9_becomeAs_152 ic_0 ?_
  refine s_istore_n (μ := mX9_becomeAs) (pc := 153) (L2 := [_, _, _]) dX9_becomeAs_153 rfl (Nat.le_of_ble_eq_true rfl) (Nat.le_of_ble_eq_true rfl) rfl rfl ?_
  refine lq_ba32_20 hF hB h0 ?_
  have hBt : ∀ a k c, ctab a k = some c → a ≠ 41 → tcp mr 32 20 14 a k = some c := fun a k c h1 h2 => by rw [tcp_ne h2]; exact hB a k c h1
  refine r_aload_n (μ := mX9_becomeAs) (pc := 178) dX9_becomeAs_178 rfl rfl rfl ?_
  refine r_getR (μ := mX9_becomeAs) (pc := 179) dX9_becomeAs_179 fpX9_67 rfl (hF _ _ rfl) (by decide) (hBt _ _ _ rfl (by decide)) ?_
  refine r_aload_n (μ := mX9_becomeAs) (pc := 182) dX9_becomeAs_182 rfl rfl rfl ?_
  refine r_getR (μ := mX9_becomeAs) (pc := 183) dX9_becomeAs_183 fpX9_67 rfl (hF _ _ rfl) (by decide) (hBt _ _ _ rfl (by decide)) ?_
  refine sV2 (μ := mX9_becomeAs) (pc := 186) (μ2 := mX9_copyRow) dX9_becomeAs_186 lkX9_77 stX9_copyRow mwX9_copyRow (Nat.le_of_ble_eq_true rfl) (k_copyRow (hF _ _ rfl) (hF _ _ rfl) (by decide)) (fun mi_186 h_186 => ?_)
  subst h_186
  exact r_vret (μ := mX9_becomeAs) (pc := 189) dX9_becomeAs_189 rfl (PW_i ⟨rfl, rfl, fun x hx => by rw [cpI_ne (by omega), upI_ne (by omega), upI_ne (by omega), upI_ne (by omega), upI_ne (by omega), cpI_ne (by omega), cpI_ne (by omega), upI_ne (by omega), upI_ne (by omega), cpI_ne (by omega), cpI_ne (by omega), cpI_ne (by omega), cpI_ne (by omega), upI_ne (by omega), cpI_ne (by omega), cpI_ne (by omega), upI_ne (by omega)], ⟨rfl, rfl, rfl, rfl⟩, ⟨rfl, rfl, rfl, rfl⟩, fun k hk => ⟨(by show va_cpy (mi 21) (mi 33) 0 0 10 k = _; exact cp_r hk), (by show va_cpy (mi 22) (mi 34) 0 0 10 k = _; exact cp_r hk)⟩, fun k hk => ⟨(by show va_cpy (mi 23) (mi 35) 0 0 8 k = _; exact cp_r hk), (by show va_cpy (mi 24) (mi 36) 0 0 8 k = _; exact cp_r hk), (by show va_cpy (mi 25) (mi 37) 0 0 8 k = _; exact cp_r hk), (by show va_cpy (mi 26) (mi 38) 0 0 8 k = _; exact cp_r hk)⟩, fun k hk => ⟨(by show va_cpy (mi 27) (mi 39) 0 0 6 k = _; exact cp_r hk), (by show va_cpy (mi 28) (mi 40) 0 0 6 k = _; exact cp_r hk)⟩, fun k hk => (by show va_cpy (mi 30) (mi 42) 0 0 3 k = _; exact cp_r hk)⟩)

theorem k_addText {d : Nat} {sh : List Sh} {mi : MI} {mr : MR} {b : Nat} (hT : TB sh mr b) {a q kt : Nat} (ha : sh[a]? = some (12, 3)) (hab : a ≠ b ∧ a ≠ b + 10) (hkt : mi a 0 = nI kt) (hk3 : kt < 3) (hq : mi b 16 = nI q) (hq14 : q < 14) : CP d mX9_addText [.ref b, .ref a] sh mi mr 0 0 (PY (fun r sh2 mi2 mr2 => r = nI q ∧ sh2 = sh ∧ mi2 = upI (upI mi (b + 10) kt (nI q)) b 16 (nI (q + 1)) ∧ mr2 = upR mr (b + 9) q (some a))) := by
  refine CP.of (L := [_, _]) (by decide) rfl rfl (Nat.le_of_ble_eq_true rfl) ?_
  refine r_aload_n (μ := mX9_addText) (pc := 0) dX9_addText_0 rfl rfl rfl ?_
  refine r_getR (μ := mX9_addText) (pc := 1) dX9_addText_1 fpX9_63 rfl (hT.1 0 _ rfl) (by decide) (hT.2.1 _ _ rfl) ?_
  refine r_aload_n (μ := mX9_addText) (pc := 4) dX9_addText_4 rfl rfl rfl ?_
  refine r_getI (μ := mX9_addText) (pc := 5) dX9_addText_5 fpX9_58 rfl (hT.1 0 _ rfl) (by decide) ?_
  rw [hq]
  refine r_aload_n (μ := mX9_addText) (pc := 8) dX9_addText_8 rfl rfl rfl ?_
  refine r_aastore (μ := mX9_addText) (pc := 9) (t := 2) (j := q) (c0 := 8) dX9_addText_9 (by decide) (hT.1 9 _ rfl) rfl (by omega) (by decide) ha rfl (Or.inl rfl) ?_
  refine r_aload_n (μ := mX9_addText) (pc := 10) dX9_addText_10 rfl rfl rfl ?_
  refine r_getR (μ := mX9_addText) (pc := 11) dX9_addText_11 fpX9_67 rfl (hT.1 0 _ rfl) (by decide) (by rw [upR_ne (by omega)]; exact hT.2.1 _ _ rfl) ?_
  refine r_aload_n (μ := mX9_addText) (pc := 14) dX9_addText_14 rfl rfl rfl ?_
  refine r_getI (μ := mX9_addText) (pc := 15) dX9_addText_15 fpX9_93 rfl ha (by decide) ?_
  rw [hkt]
  refine r_aload_n (μ := mX9_addText) (pc := 18) dX9_addText_18 rfl rfl rfl ?_
  refine r_getI (μ := mX9_addText) (pc := 19) dX9_addText_19 fpX9_58 rfl (hT.1 0 _ rfl) (by decide) ?_
  rw [hq]
  refine r_iastore (μ := mX9_addText) (pc := 22) (j := kt) dX9_addText_22 (hT.1 _ _ rfl) rfl (by omega) (by decide) ?_
  refine r_aload_n (μ := mX9_addText) (pc := 23) dX9_addText_23 rfl rfl rfl ?_
  refine r_dup (μ := mX9_addText) (pc := 24) dX9_addText_24 rfl ?_
  refine r_getI (μ := mX9_addText) (pc := 25) dX9_addText_25 fpX9_58 rfl (hT.1 0 _ rfl) (by decide) ?_
  rw [up_oth (by omega), hq]
  refine r_iconst (μ := mX9_addText) (pc := 28) (v := 1) dX9_addText_28 ic_1 ?_
  refine r_iadd (μ := mX9_addText) (pc := 29) dX9_addText_29 ?_
  rw [show nI q + 1 = nI (q + 1) from (nI_succ q).symm]
  refine r_putI (μ := mX9_addText) (pc := 30) dX9_addText_30 fwX9_58 (hT.1 0 _ rfl) (by decide) rfl ?_
  refine r_aload_n (μ := mX9_addText) (pc := 33) dX9_addText_33 rfl rfl rfl ?_
  refine r_getI (μ := mX9_addText) (pc := 34) dX9_addText_34 fpX9_58 rfl (hT.1 0 _ rfl) (by decide) ?_
  rw [up_eq]
  refine r_iconst (μ := mX9_addText) (pc := 37) (v := 1) dX9_addText_37 ic_1 ?_
  refine r_isub (μ := mX9_addText) (pc := 38) dX9_addText_38 ?_
  rw [nI_pred]
  exact r_iret (μ := mX9_addText) (pc := 39) dX9_addText_39 rfl rfl (PY_i ⟨rfl, rfl, rfl, rfl⟩)

