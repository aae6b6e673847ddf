def imgR (im s : Rw) : Rw := fun k => if k < 2880 then im k else s k
theorem cp2_b {mi : MI} {a b i : Nat} : cp2 mi a b i b = fun k => if k < i then mi a k else mi b k := by simp [cp2]
theorem cp2_o {mi : MI} {a b i x : Nat} (h : x ≠ b) : cp2 mi a b i x = mi x := by simp [cp2, h]
def ckI (mi : MI) : MI := cp2 (cp2 (upI mi 0 32 0) 1 3 2880) 2 1 2880
theorem ckI_1 {mi : MI} : ckI mi 1 = imgR (mi 2) (mi 1) := by
  unfold ckI
  rw [cp2_b]
  funext k
  rw [cp2_o (by decide), cp2_o (by decide), upI_ne (by decide), upI_ne (by decide)]
  rfl
def ckP (mi mi2 : MI) : Prop := mi2 1 = mi 1 ∧ mi2 0 32 = 0 ∧ (∀ j, j ≠ 32 → mi2 0 j = mi 0 j) ∧ ∀ a, a ≠ 0 → a ≠ 1 → a ≠ 3 → a ≠ 14 → a ≠ 15 → a ≠ 18 → mi2 a = mi a
theorem ckP_of {mi mi2 : MI} {n m p q K : Nat} (hI : Inv (imgR (mi 2) (mi 1)) n m p q) (h : SD (ckI mi) mi2 (ngtsR (imgR (mi 2) (mi 1)) q n m K).1) : ckP mi (cp2 mi2 3 1 2880) := by
  refine ⟨?_, ?_, fun j hj => ?_, fun a h0 h1 h3 h4 h5 h6 => ?_⟩
  · rw [cp2_b]
    funext k
    by_cases hk : k < 2880
    · rw [if_pos hk, h.2 3 (by decide) (by decide) (by decide) (by decide)]
      unfold ckI
      rw [cp2_o (by decide), cp2_b]
      show (if k < 2880 then _ else _) = _
      rw [if_pos hk, upI_ne (by decide)]
    · rw [if_neg hk, h.1, (ngtsR_ok hI K).2.1.1 k (by omega)]
      exact if_neg hk
  · rw [cp2_o (by decide), h.2 0 (by decide) (by decide) (by decide) (by decide)]
    unfold ckI
    rw [cp2_o (by decide), cp2_o (by decide), up_eq]
  · rw [cp2_o (by decide), h.2 0 (by decide) (by decide) (by decide) (by decide)]
    unfold ckI
    rw [cp2_o (by decide), cp2_o (by decide), up_ne hj]
  · rw [cp2_o h1, h.2 a h1 h4 h5 h6]
    unfold ckI
    rw [cp2_o h1, cp2_o h3, upI_ne h0]

theorem c_check_bad {d : Nat} {mi : MI} {mr : MR} (hM : MB mr) {x : Int32} (hb : ¬ inB x 1 30 = true) : CP (d + 2) mX12_check [.ref 0, .int x] shM mi mr 0 0 (PX shM mr (fun r mi2 => r = BADc ∧ mi2 = upI mi 0 32 0)) := by
  refine CP.of (L := [_, _, _, _, _, _]) (by decide) rfl rfl (Nat.le_of_ble_eq_true rfl) ?_
  refine r_aload_n (μ := mX12_check) (pc := 0) dX12_check_0 rfl rfl rfl ?_
  refine r_getI (μ := mX12_check) (pc := 1) dX12_check_1 fpX12_329 rfl rfl (by decide) ?_
  refine s_istore_n (μ := mX12_check) (pc := 4) (L2 := [_, _, _, _, _, _]) dX12_check_4 rfl (Nat.le_of_ble_eq_true rfl) (Nat.le_of_ble_eq_true rfl) rfl rfl ?_
  refine r_aload_n (μ := mX12_check) (pc := 5) dX12_check_5 rfl rfl rfl ?_
  refine r_iconst (μ := mX12_check) (pc := 6) (v := 0) dX12_check_6 ic_0 ?_
  refine r_putI (μ := mX12_check) (pc := 7) dX12_check_7 fwX12_329 rfl (by decide) rfl ?_
  refine r_iload_n (μ := mX12_check) (pc := 10) dX12_check_10 rfl rfl ?_
  refine r_i2l (μ := mX12_check) (pc := 11) dX12_check_11 ?_
  refine r_lconst (μ := mX12_check) (pc := 12) (v := 1) dX12_check_12 lc_1 ?_
  refine r_ldc2 (μ := mX12_check) (pc := 13) dX12_check_13 clX12_171 ?_
  refine sP3 (μ := mX12_check) (pc := 16) (μ2 := mX12_isIn) dX12_check_16 lkX12_65 stX12_isIn mwX12_isIn (Nat.le_of_ble_eq_true rfl) (c_isInK il_1 il_30) ?_
  refine r_if_ne (μ := mX12_check) (pc := 19) (tgt := 25) dX12_check_19 (by decide) (fun h_19 => absurd (b2i_eq (by simpa using hb)) h_19) (fun h_19 => ?_)
  refine r_ldc (μ := mX12_check) (pc := 22) dX12_check_22 ctX12_78 ?_
  exact r_iret (μ := mX12_check) (pc := 24) dX12_check_24 rfl rfl (PX_i ⟨rfl, rfl⟩)

theorem c_check_no {d : Nat} {mi : MI} {mr : MR} (hM : MB mr) {x : Int32} (hb : inB x 1 30 = true) (hi : mi 0 3 = 0) : CP (d + 2) mX12_check [.ref 0, .int x] shM mi mr 0 0 (PX shM mr (fun r mi2 => r = NOc ∧ mi2 = upI mi 0 32 0)) := by
  refine CP.of (L := [_, _, _, _, _, _]) (by decide) rfl rfl (Nat.le_of_ble_eq_true rfl) ?_
  refine r_aload_n (μ := mX12_check) (pc := 0) dX12_check_0 rfl rfl rfl ?_
  refine r_getI (μ := mX12_check) (pc := 1) dX12_check_1 fpX12_329 rfl rfl (by decide) ?_
  refine s_istore_n (μ := mX12_check) (pc := 4) (L2 := [_, _, _, _, _, _]) dX12_check_4 rfl (Nat.le_of_ble_eq_true rfl) (Nat.le_of_ble_eq_true rfl) rfl rfl ?_
  refine r_aload_n (μ := mX12_check) (pc := 5) dX12_check_5 rfl rfl rfl ?_
  refine r_iconst (μ := mX12_check) (pc := 6) (v := 0) dX12_check_6 ic_0 ?_
  refine r_putI (μ := mX12_check) (pc := 7) dX12_check_7 fwX12_329 rfl (by decide) rfl ?_
  refine r_iload_n (μ := mX12_check) (pc := 10) dX12_check_10 rfl rfl ?_
  refine r_i2l (μ := mX12_check) (pc := 11) dX12_check_11 ?_
  refine r_lconst (μ := mX12_check) (pc := 12) (v := 1) dX12_check_12 lc_1 ?_
  refine r_ldc2 (μ := mX12_check) (pc := 13) dX12_check_13 clX12_171 ?_
  refine sP3 (μ := mX12_check) (pc := 16) (μ2 := mX12_isIn) dX12_check_16 lkX12_65 stX12_isIn mwX12_isIn (Nat.le_of_ble_eq_true rfl) (c_isInK il_1 il_30) ?_
  refine r_if_ne (μ := mX12_check) (pc := 19) (tgt := 25) dX12_check_19 (by decide) (fun h_19 => ?_) (fun h_19 => absurd h_19 (b2i_ne hb))
  refine r_aload_n (μ := mX12_check) (pc := 25) dX12_check_25 rfl rfl rfl ?_
  refine r_getI (μ := mX12_check) (pc := 26) dX12_check_26 fpX12_332 rfl rfl (by decide) ?_
  refine r_if_ne (μ := mX12_check) (pc := 29) (tgt := 35) dX12_check_29 (by decide) (fun h_29 => absurd (by rw [up_ne (by decide)]; exact hi) h_29) (fun h_29 => ?_)
  refine r_ldc (μ := mX12_check) (pc := 32) dX12_check_32 ctX12_168 ?_
  exact r_iret (μ := mX12_check) (pc := 34) dX12_check_34 rfl rfl (PX_i ⟨rfl, rfl⟩)

theorem lp_ckF {d : Nat} {mi : MI} {mr : MR} {Q : QT} {K wt : Nat} (hK : K ≤ 30) (hwt : wt ≤ 60) {W0 due : Rw} {j : Nat} (hj : agr W0 due (min wt (2 * K)) = j) (hj60 : j ≤ 60) (hq : Q (some (.int (chkS W0 due wt (2 * K)))) shM mi mr) {x5 : Value} : WP d mX12_check 175 [.ref 0, .int (nI K), .int (nI wt), .int (nI (2 * K)), .int (nI j), x5] [] shM mi mr 0 0 Q := by
  refine r_iload (μ := mX12_check) (pc := 175) dX12_check_175 rfl ?_
  refine r_iload_n (μ := mX12_check) (pc := 177) dX12_check_177 rfl rfl ?_
  refine r_icmp_ne (μ := mX12_check) (pc := 178) (tgt := 191) dX12_check_178 (by decide) (fun h_178 => ?_) (fun h_178 => ?_)
  · have hy : chkS W0 due wt (2 * K) = 1 + nI j := by unfold chkS; rw [hj, if_neg (fun z => h_178 (by rw [z.1])), ← nI_add]; rfl
    refine r_iconst (μ := mX12_check) (pc := 191) (v := 1) dX12_check_191 ic_1 ?_
    refine r_iload (μ := mX12_check) (pc := 192) dX12_check_192 rfl ?_
    refine r_iadd (μ := mX12_check) (pc := 194) dX12_check_194 ?_
    exact r_iret (μ := mX12_check) (pc := 195) dX12_check_195 rfl rfl (by rw [hy] at hq; exact hq)
  · refine r_iload (μ := mX12_check) (pc := 181) dX12_check_181 rfl ?_
    refine r_iload_n (μ := mX12_check) (pc := 183) dX12_check_183 rfl rfl ?_
    refine r_icmp_ne (μ := mX12_check) (pc := 184) (tgt := 191) dX12_check_184 (by decide) (fun h_184 => ?_) (fun h_184 => ?_)
    · have hy : chkS W0 due wt (2 * K) = 1 + nI j := by unfold chkS; rw [hj, if_neg (fun z => h_184 (by rw [z.2])), ← nI_add]; rfl
      refine r_iconst (μ := mX12_check) (pc := 191) (v := 1) dX12_check_191 ic_1 ?_
      refine r_iload (μ := mX12_check) (pc := 192) dX12_check_192 rfl ?_
      refine r_iadd (μ := mX12_check) (pc := 194) dX12_check_194 ?_
      exact r_iret (μ := mX12_check) (pc := 195) dX12_check_195 rfl rfl (by rw [hy] at hq; exact hq)
    · have hy : chkS W0 due wt (2 * K) = 0 := by unfold chkS; rw [hj, if_pos ⟨(nI_eq (by omega) (by omega)).mp h_178, (nI_eq (by omega) (by omega)).mp h_184⟩]
      refine r_iconst (μ := mX12_check) (pc := 187) (v := 0) dX12_check_187 ic_0 ?_
      refine r_goto (μ := mX12_check) (pc := 188) (tgt := 195) dX12_check_188 (by decide) ?_
      exact r_iret (μ := mX12_check) (pc := 195) dX12_check_195 rfl rfl (by rw [hy] at hq; exact hq)

theorem lp_ckC {d : Nat} {mi : MI} {mr : MR} {Q : QT} (hM : MB mr) {K wt : Nat} (hK : K ≤ 30) (hwt : wt ≤ 60) {W0 due : Rw} (hW : mi 17 = W0) (hD : ∀ j, j < 2 * K → mi 18 j = due j) (hq : Q (some (.int (chkS W0 due wt (2 * K)))) shM mi mr) {x5 : Value} (hx5 : catL x5 = true) :
    ∀ (k j : Nat), j + k = min wt (2 * K) → (∀ i, i < j → W0 i = due i) → WP d mX12_check 140 [.ref 0, .int (nI K), .int (nI wt), .int (nI (2 * K)), .int (nI j), x5] [] shM mi mr 0 0 Q := by
  intro k
  induction k with
  | zero =>
    intro j hk ha
    have hj : agr W0 due (min wt (2 * K)) = j := by rw [← hk]; exact agr_all j ha
    rcases Nat.lt_or_ge j wt with hz | hz
    · refine r_iload (μ := mX12_check) (pc := 140) dX12_check_140 rfl ?_
      refine r_iload_n (μ := mX12_check) (pc := 142) dX12_check_142 rfl rfl ?_
      refine r_icmp_ge (μ := mX12_check) (pc := 143) (tgt := 175) dX12_check_143 (by decide) (fun h_143 => absurd h_143 (nI_ge hz (by omega))) (fun h_143 => ?_)
      refine r_iload (μ := mX12_check) (pc := 146) dX12_check_146 rfl ?_
      refine r_iload_n (μ := mX12_check) (pc := 148) dX12_check_148 rfl rfl ?_
      refine r_icmp_ge (μ := mX12_check) (pc := 149) (tgt := 175) dX12_check_149 (by decide) (fun h_149 => ?_) (fun h_149 => absurd (nI_le (by omega) (by omega)) h_149)
      exact lp_ckF hK hwt hj (by omega) hq
    · refine r_iload (μ := mX12_check) (pc := 140) dX12_check_140 rfl ?_
      refine r_iload_n (μ := mX12_check) (pc := 142) dX12_check_142 rfl rfl ?_
      refine r_icmp_ge (μ := mX12_check) (pc := 143) (tgt := 175) dX12_check_143 (by decide) (fun h_143 => ?_) (fun h_143 => absurd (nI_le hz (by omega)) h_143)
      exact lp_ckF hK hwt hj (by omega) hq
  | succ k ih =>
    intro j hk ha
    refine r_iload (μ := mX12_check) (pc := 140) dX12_check_140 rfl ?_
    refine r_iload_n (μ := mX12_check) (pc := 142) dX12_check_142 rfl rfl ?_
    refine r_icmp_ge (μ := mX12_check) (pc := 143) (tgt := 175) dX12_check_143 (by decide) (fun h_143 => absurd h_143 (nI_ge (by omega) (by omega))) (fun h_143 => ?_)
    refine r_iload (μ := mX12_check) (pc := 146) dX12_check_146 rfl ?_
    refine r_iload_n (μ := mX12_check) (pc := 148) dX12_check_148 rfl rfl ?_
    refine r_icmp_ge (μ := mX12_check) (pc := 149) (tgt := 175) dX12_check_149 (by decide) (fun h_149 => absurd h_149 (nI_ge (by omega) (by omega))) (fun h_149 => ?_)
    refine r_aload_n (μ := mX12_check) (pc := 152) dX12_check_152 rfl rfl rfl ?_
    refine r_getR (μ := mX12_check) (pc := 153) dX12_check_153 fpX12_58 rfl rfl (by decide) (hM _ _ rfl) ?_
    refine r_iload (μ := mX12_check) (pc := 156) dX12_check_156 rfl ?_
    refine r_iaload (μ := mX12_check) (pc := 158) (j := j) dX12_check_158 rfl rfl (by show j < 60; omega) (by decide) ?_
    rw [hW]
    refine r_aload_n (μ := mX12_check) (pc := 159) dX12_check_159 rfl rfl rfl ?_
    refine r_getR (μ := mX12_check) (pc := 160) dX12_check_160 fpX12_61 rfl rfl (by decide) (hM _ _ rfl) ?_
    refine r_iload (μ := mX12_check) (pc := 163) dX12_check_163 rfl ?_
    refine r_iaload (μ := mX12_check) (pc := 165) (j := j) dX12_check_165 rfl rfl (by show j < 60; omega) (by decide) ?_
    rw [hD j (by omega)]
    refine r_icmp_ne (μ := mX12_check) (pc := 166) (tgt := 175) dX12_check_166 (by decide) (fun h_166 => ?_) (fun h_166 => ?_)
    · exact lp_ckF hK hwt (agr_at ha h_166 _ (by omega)) (by omega) hq
    · refine s_iinc (μ := mX12_check) (pc := 169) (c := 1) (L2 := [_, _, _, _, _, _]) dX12_check_169 rfl ic_1 (Nat.le_of_ble_eq_true rfl) (by simp only [List.all_cons, List.all_nil, catL_i, catL_r, hx5, Bool.and_self]) rfl ?_
      refine r_goto (μ := mX12_check) (pc := 172) (tgt := 140) dX12_check_172 (by decide) ?_
      exact WP.L (by rw [nI_succ]) (ih (j + 1) (by omega) (fun i hi => by rcases Nat.lt_or_ge i j with z | z; (· exact ha i z); (· have hz9 : i = j := (by omega); subst hz9; exact h_166)))

theorem lp_ckN {d : Nat} {m0 : MI} {mr : MR} {Q : QT} (hM : MB mr) {s : Rw} {n m p q : Nat} (hI : Inv s n m p q) {K wt : Nat} (hK : K ≤ 30)
    (k125 : ∀ mi2, SD m0 mi2 (ngtsR s q n m K).1 → (∀ j, j < 2 * K → mi2 18 j = dueS s q n m j) → ∀ x5 : Value, catL x5 = true → WP (d + 6) mX12_check 125 [.ref 0, .int (nI K), .int (nI wt), .int (nI (2 * K)), .int (nI K), x5] [] shM mi2 mr 0 0 Q) :
    ∀ (k i : Nat), i + k = K → ∀ mi2, SD m0 mi2 (ngtsR s q n m i).1 → (∀ j, j < 2 * i → mi2 18 j = dueS s q n m j) → ∀ x5 : Value, catL x5 = true → WP (d + 6) mX12_check 64 [.ref 0, .int (nI K), .int (nI wt), .int (nI (2 * i)), .int (nI i), x5] [] shM mi2 mr 0 0 Q := by
  have hn10 := hI.n10
  intro k
  induction k with
  | zero =>
    intro i hk mi2 hS hD x5 hx5
    obtain rfl : i = K := by omega
    refine r_iload (μ := mX12_check) (pc := 64) dX12_check_64 rfl ?_
    refine r_iload_n (μ := mX12_check) (pc := 66) dX12_check_66 rfl rfl ?_
    refine r_icmp_ge (μ := mX12_check) (pc := 67) (tgt := 125) dX12_check_67 (by decide) (fun h_67 => ?_) (fun h_67 => absurd (nI_le (Nat.le_refl _) (by omega)) h_67)
    exact k125 mi2 hS hD x5 hx5
  | succ k ih =>
    intro i hk mi2 hS hD x5 hx5
    have hI2 := (ngtsR_ok hI i).1
    have hI3 := (ngtsR_ok hI (i + 1)).1
    have hd := due_r (s := s) (q := q) (n := n) (m := m) (i := i)
    have e2 : nI (2 * (i + 1)) = nI (2 * i) + 2 := by rw [show 2 * (i + 1) = 2 * i + 2 by omega, ← nI_add]; rfl
    refine r_iload (μ := mX12_check) (pc := 64) dX12_check_64 rfl ?_
    refine r_iload_n (μ := mX12_check) (pc := 66) dX12_check_66 rfl rfl ?_
    refine r_icmp_ge (μ := mX12_check) (pc := 67) (tgt := 125) dX12_check_67 (by decide) (fun h_67 => absurd h_67 (nI_ge (by omega) (by omega))) (fun h_67 => ?_)
    refine r_aload_n (μ := mX12_check) (pc := 70) dX12_check_70 rfl rfl rfl ?_
    refine vX0 (μ := mX12_check) (pc := 71) (c0 := 12) (q0 := (RX12, TX12, 34)) (μ2 := mX12_night) dX12_check_71 rfl rfl lkX12_173 imX12_night seX12_X12_night_X12_night mwX12_night (Nat.le_of_ble_eq_true rfl) (c_night hM hS.1 hI2) (fun r_71 mi_71 h_71 => ?_)
    obtain ⟨rfl, h71⟩ := h_71
    have hS2 : SD m0 mi_71 (ngtsR s q n m (i + 1)).1 := hS.sr h71
    refine s_istore (μ := mX12_check) (pc := 74) (L2 := [_, _, _, _, _, _]) dX12_check_74 (Nat.le_of_ble_eq_true rfl) (Nat.le_of_ble_eq_true rfl) (by simp only [List.all_cons, List.all_nil, catL_i, catL_r, hx5, Bool.and_self]) rfl ?_
    refine r_aload_n (μ := mX12_check) (pc := 76) dX12_check_76 rfl rfl rfl ?_
    refine r_getR (μ := mX12_check) (pc := 77) dX12_check_77 fpX12_61 rfl rfl (by decide) (hM _ _ rfl) ?_
    refine r_iload_n (μ := mX12_check) (pc := 80) dX12_check_80 rfl rfl ?_
    refine r_aload_n (μ := mX12_check) (pc := 81) dX12_check_81 rfl rfl rfl ?_
    refine vX0 (μ := mX12_check) (pc := 82) (c0 := 12) (q0 := (RX12, TX12, 34)) (μ2 := mX12_standing) dX12_check_82 rfl rfl lkX12_340 imX12_standing seX12_X12_standing_X12_standing mwX12_standing (Nat.le_of_ble_eq_true rfl) (c_standing hM hS2.1 hI3) (fun r_82 mi_82 h_82 => ?_)
    obtain ⟨rfl, h82⟩ := h_82
    have hS3 := (hS2.sb h82).up (k := 2 * i) (v := nI (cntB (stdS (ngtsR s q n m (i + 1)).1 q) m))
    refine r_iastore (μ := mX12_check) (pc := 85) (j := (2 * i)) dX12_check_85 rfl rfl (by show 2 * i < 60; omega) (by decide) ?_
    refine r_aload_n (μ := mX12_check) (pc := 86) dX12_check_86 rfl rfl rfl ?_
    refine r_getR (μ := mX12_check) (pc := 87) dX12_check_87 fpX12_61 rfl rfl (by decide) (hM _ _ rfl) ?_
    refine r_iload_n (μ := mX12_check) (pc := 90) dX12_check_90 rfl rfl ?_
    refine r_iconst (μ := mX12_check) (pc := 91) (v := 1) dX12_check_91 ic_1 ?_
    refine r_iadd (μ := mX12_check) (pc := 92) dX12_check_92 ?_
    refine r_aload_n (μ := mX12_check) (pc := 93) dX12_check_93 rfl rfl rfl ?_
    refine r_getR (μ := mX12_check) (pc := 94) dX12_check_94 fpX12_7 rfl rfl (by decide) (hM _ _ rfl) ?_
    refine r_iconst (μ := mX12_check) (pc := 97) (v := 0) dX12_check_97 ic_0 ?_
    refine r_iaload (μ := mX12_check) (pc := 98) (j := 0) dX12_check_98 rfl rfl (by decide) (by decide) ?_
    rw [hS3.1, hI3.en]
    refine r_if_ne (μ := mX12_check) (pc := 99) (tgt := 106) dX12_check_99 (by decide) (fun h_99 => ?_) (fun h_99 => ?_)
    · have hn0 : 0 < n := Nat.pos_of_ne_zero (fun z => h_99 (by rw [z]; rfl))
      have hv : dueS s q n m (2 * i + 1) = nI (gcnt (ngtsR s q n m (i + 1)).1 q m) := by rw [hd.2, if_neg (by omega)]
      refine r_aload_n (μ := mX12_check) (pc := 106) dX12_check_106 rfl rfl rfl ?_
      refine r_iconst (μ := mX12_check) (pc := 107) (v := 0) dX12_check_107 ic_0 ?_
      refine r_iconst (μ := mX12_check) (pc := 108) (v := -1) dX12_check_108 ic_m1 ?_
      refine vX2 (μ := mX12_check) (pc := 109) (c0 := 12) (q0 := (RX12, TX12, 34)) (μ2 := mX12_reachedBut) dX12_check_109 rfl rfl lkX12_186 imX12_reachedBut seX12_X12_reachedBut_X12_reachedBut mwX12_reachedBut (Nat.le_of_ble_eq_true rfl) (c_reachedBut hM hS3.1 hI3 (a := 0) hn0) (fun r_109 mi_109 h_109 => ?_)
      obtain ⟨rfl, h109⟩ := h_109
      have hS4 := hS3.sb h109
      refine sP1 (μ := mX12_check) (pc := 112) (μ2 := mX12_ones) dX12_check_112 lkX12_203 stX12_ones mwX12_ones (Nat.le_of_ble_eq_true rfl) c_ones ?_
      rw [show onesK (rbS (ngtsR s q n m (i + 1)).1 q m (-1) 0) 10 = nI (gcnt (ngtsR s q n m (i + 1)).1 q m) from ones_bits _ 10 (Nat.le_refl _)]
      refine r_iastore (μ := mX12_check) (pc := 115) (j := (2 * i + 1)) dX12_check_115 rfl (by rw [nI_succ]) (by show 2 * i + 1 < 60; omega) (by decide) ?_
      refine s_iinc (μ := mX12_check) (pc := 116) (c := 2) (L2 := [_, _, _, _, _, _]) dX12_check_116 rfl ic_2 (Nat.le_of_ble_eq_true rfl) (by simp only [List.all_cons, List.all_nil, catL_i, catL_r, hx5, Bool.and_self]) rfl ?_
      refine s_iinc (μ := mX12_check) (pc := 119) (c := 1) (L2 := [_, _, _, _, _, _]) dX12_check_119 rfl ic_1 (Nat.le_of_ble_eq_true rfl) (by simp only [List.all_cons, List.all_nil, catL_i, catL_r, hx5, Bool.and_self]) rfl ?_
      refine r_goto (μ := mX12_check) (pc := 122) (tgt := 64) dX12_check_122 (by decide) ?_
      refine WP.L (by rw [e2, show nI (i + 1) = nI i + 1 from nI_succ i]) (ih (i + 1) (by omega) _ hS4.up (fun j hj => ?_) _ rfl)
      by_cases h9 : j = 2 * i + 1
      · subst h9; rw [up_eq, hv]
      · rw [up_ne h9, h109 18 (by decide) (by decide)]
        by_cases h8 : j = 2 * i
        · subst h8; rw [up_eq, hd.1]
        · rw [up_ne h8, h82 18 (by decide) (by decide), h71.2 18 (by decide) (by decide) (by decide)]; exact hD j (by omega)
    · have hn0 : n = 0 := (nI_eq (b := 0) (by omega) (by omega)).mp h_99
      have hv : dueS s q n m (2 * i + 1) = 0 := by rw [hd.2, if_pos hn0]
      have h109 := SB.rf (upI mi_82 18 (2 * i) (nI (cntB (stdS (ngtsR s q n m (i + 1)).1 q) m)))
      have hS4 := hS3
      refine r_iconst (μ := mX12_check) (pc := 102) (v := 0) dX12_check_102 ic_0 ?_
      refine r_goto (μ := mX12_check) (pc := 103) (tgt := 115) dX12_check_103 (by decide) ?_
      refine r_iastore (μ := mX12_check) (pc := 115) (j := (2 * i + 1)) dX12_check_115 rfl (by rw [nI_succ]) (by show 2 * i + 1 < 60; omega) (by decide) ?_
      refine s_iinc (μ := mX12_check) (pc := 116) (c := 2) (L2 := [_, _, _, _, _, _]) dX12_check_116 rfl ic_2 (Nat.le_of_ble_eq_true rfl) (by simp only [List.all_cons, List.all_nil, catL_i, catL_r, hx5, Bool.and_self]) rfl ?_
      refine s_iinc (μ := mX12_check) (pc := 119) (c := 1) (L2 := [_, _, _, _, _, _]) dX12_check_119 rfl ic_1 (Nat.le_of_ble_eq_true rfl) (by simp only [List.all_cons, List.all_nil, catL_i, catL_r, hx5, Bool.and_self]) rfl ?_
      refine r_goto (μ := mX12_check) (pc := 122) (tgt := 64) dX12_check_122 (by decide) ?_
      refine WP.L (by rw [e2, show nI (i + 1) = nI i + 1 from nI_succ i]) (ih (i + 1) (by omega) _ hS4.up (fun j hj => ?_) _ rfl)
      by_cases h9 : j = 2 * i + 1
      · subst h9; rw [up_eq, hv]
      · rw [up_ne h9, h109 18 (by decide) (by decide)]
        by_cases h8 : j = 2 * i
        · subst h8; rw [up_eq, hd.1]
        · rw [up_ne h8, h82 18 (by decide) (by decide), h71.2 18 (by decide) (by decide) (by decide)]; exact hD j (by omega)

theorem c_check {d : Nat} {mi : MI} {mr : MR} (hM : MB mr) {n m p q K wt : Nat} (hI : Inv (imgR (mi 2) (mi 1)) n m p q) (h1 : 1 ≤ K) (hK : K ≤ 30) (hi : ¬ mi 0 3 = 0) (hw : mi 0 32 = nI wt) (hwt : wt ≤ 60) : CP (d + 6) mX12_check [.ref 0, .int (nI K)] shM mi mr 0 0 (PX shM mr (fun r mi2 => r = chkS (mi 17) (dueS (imgR (mi 2) (mi 1)) q n m) wt (2 * K) ∧ ckP mi mi2)) := by
  refine CP.of (L := [_, _, _, _, _, _]) (by decide) rfl rfl (Nat.le_of_ble_eq_true rfl) ?_
  refine r_aload_n (μ := mX12_check) (pc := 0) dX12_check_0 rfl rfl rfl ?_
  refine r_getI (μ := mX12_check) (pc := 1) dX12_check_1 fpX12_329 rfl rfl (by decide) ?_
  rw [hw]
  refine s_istore_n (μ := mX12_check) (pc := 4) (L2 := [_, _, _, _, _, _]) dX12_check_4 rfl (Nat.le_of_ble_eq_true rfl) (Nat.le_of_ble_eq_true rfl) rfl rfl ?_
  refine r_aload_n (μ := mX12_check) (pc := 5) dX12_check_5 rfl rfl rfl ?_
  refine r_iconst (μ := mX12_check) (pc := 6) (v := 0) dX12_check_6 ic_0 ?_
  refine r_putI (μ := mX12_check) (pc := 7) dX12_check_7 fwX12_329 rfl (by decide) rfl ?_
  refine r_iload_n (μ := mX12_check) (pc := 10) dX12_check_10 rfl rfl ?_
  refine r_i2l (μ := mX12_check) (pc := 11) dX12_check_11 ?_
  refine r_lconst (μ := mX12_check) (pc := 12) (v := 1) dX12_check_12 lc_1 ?_
  refine r_ldc2 (μ := mX12_check) (pc := 13) dX12_check_13 clX12_171 ?_
  refine sP3 (μ := mX12_check) (pc := 16) (μ2 := mX12_isIn) dX12_check_16 lkX12_65 stX12_isIn mwX12_isIn (Nat.le_of_ble_eq_true rfl) (c_isInK il_1 il_30) ?_
  refine r_if_ne (μ := mX12_check) (pc := 19) (tgt := 25) dX12_check_19 (by decide) (fun h_19 => ?_) (fun h_19 => absurd h_19 (b2i_ne (inB_nI (by omega) (by omega))))
  refine r_aload_n (μ := mX12_check) (pc := 25) dX12_check_25 rfl rfl rfl ?_
  refine r_getI (μ := mX12_check) (pc := 26) dX12_check_26 fpX12_332 rfl rfl (by decide) ?_
  refine r_if_ne (μ := mX12_check) (pc := 29) (tgt := 35) dX12_check_29 (by decide) (fun h_29 => ?_) (fun h_29 => absurd h_29 (by rw [up_ne (by decide)]; exact hi))
  refine r_aload_n (μ := mX12_check) (pc := 35) dX12_check_35 rfl rfl rfl ?_
  refine r_aload_n (μ := mX12_check) (pc := 36) dX12_check_36 rfl rfl rfl ?_
  refine r_getR (μ := mX12_check) (pc := 37) dX12_check_37 fpX12_7 rfl rfl (by decide) (hM _ _ rfl) ?_
  refine r_aload_n (μ := mX12_check) (pc := 40) dX12_check_40 rfl rfl rfl ?_
  refine r_getR (μ := mX12_check) (pc := 41) dX12_check_41 fpX12_16 rfl rfl (by decide) (hM _ _ rfl) ?_
  refine vV2 (μ := mX12_check) (pc := 44) (c0 := 12) (q0 := (RX12, TX12, 34)) (μ2 := mX12_setAside) dX12_check_44 rfl rfl lkX12_336 imX12_setAside seX12_X12_setAside_X12_setAside mwX12_setAside (Nat.le_of_ble_eq_true rfl) (c_setAside rfl rfl (by decide)) (fun mi_44 h_44 => ?_)
  subst h_44
  refine r_aload_n (μ := mX12_check) (pc := 47) dX12_check_47 rfl rfl rfl ?_
  refine r_aload_n (μ := mX12_check) (pc := 48) dX12_check_48 rfl rfl rfl ?_
  refine r_getR (μ := mX12_check) (pc := 49) dX12_check_49 fpX12_13 rfl rfl (by decide) (hM _ _ rfl) ?_
  refine r_aload_n (μ := mX12_check) (pc := 52) dX12_check_52 rfl rfl rfl ?_
  refine r_getR (μ := mX12_check) (pc := 53) dX12_check_53 fpX12_7 rfl rfl (by decide) (hM _ _ rfl) ?_
  refine vV2 (μ := mX12_check) (pc := 56) (c0 := 12) (q0 := (RX12, TX12, 34)) (μ2 := mX12_setAside) dX12_check_56 rfl rfl lkX12_336 imX12_setAside seX12_X12_setAside_X12_setAside mwX12_setAside (Nat.le_of_ble_eq_true rfl) (c_setAside rfl rfl (by decide)) (fun mi_56 h_56 => ?_)
  subst h_56
  refine r_iconst (μ := mX12_check) (pc := 59) (v := 0) dX12_check_59 ic_0 ?_
  refine s_istore_n (μ := mX12_check) (pc := 60) (L2 := [_, _, _, _, _, _]) dX12_check_60 rfl (Nat.le_of_ble_eq_true rfl) (Nat.le_of_ble_eq_true rfl) rfl rfl ?_
  refine r_iconst (μ := mX12_check) (pc := 61) (v := 0) dX12_check_61 ic_0 ?_
  refine s_istore (μ := mX12_check) (pc := 62) (L2 := [_, _, _, _, _, _]) dX12_check_62 (Nat.le_of_ble_eq_true rfl) (Nat.le_of_ble_eq_true rfl) rfl rfl ?_
  refine lp_ckN (m0 := ckI mi) hM hI hK (fun mi2 hS hD y5 hy5 => ?_) K 0 (Nat.zero_add _) (ckI mi) (SD.rf ckI_1) (fun j hj => absurd hj (Nat.not_lt_zero _)) _ rfl
  refine r_aload_n (μ := mX12_check) (pc := 125) dX12_check_125 rfl rfl rfl ?_
  refine r_aload_n (μ := mX12_check) (pc := 126) dX12_check_126 rfl rfl rfl ?_
  refine r_getR (μ := mX12_check) (pc := 127) dX12_check_127 fpX12_16 rfl rfl (by decide) (hM _ _ rfl) ?_
  refine r_aload_n (μ := mX12_check) (pc := 130) dX12_check_130 rfl rfl rfl ?_
  refine r_getR (μ := mX12_check) (pc := 131) dX12_check_131 fpX12_7 rfl rfl (by decide) (hM _ _ rfl) ?_
  refine vV2 (μ := mX12_check) (pc := 134) (c0 := 12) (q0 := (RX12, TX12, 34)) (μ2 := mX12_setAside) dX12_check_134 rfl rfl lkX12_336 imX12_setAside seX12_X12_setAside_X12_setAside mwX12_setAside (Nat.le_of_ble_eq_true rfl) (c_setAside rfl rfl (by decide)) (fun mi_134 h_134 => ?_)
  subst h_134
  refine r_iconst (μ := mX12_check) (pc := 137) (v := 0) dX12_check_137 ic_0 ?_
  refine s_istore (μ := mX12_check) (pc := 138) (L2 := [_, _, _, _, _, _]) dX12_check_138 (Nat.le_of_ble_eq_true rfl) (Nat.le_of_ble_eq_true rfl) (by simp only [List.all_cons, List.all_nil, catL_i, catL_r, hy5, Bool.and_self]) rfl ?_
  exact lp_ckC hM hK hwt (W0 := mi 17) (due := dueS (imgR (mi 2) (mi 1)) q n m) (by rw [cp2_o (by decide), hS.2 17 (by decide) (by decide) (by decide) (by decide)]; unfold ckI; rw [cp2_o (by decide), cp2_o (by decide), upI_ne (by decide)]) (fun j hj => by rw [cp2_o (by decide)]; exact hD j hj) (PX_i ⟨rfl, ckP_of hI hS⟩) hy5 _ 0 (Nat.zero_add _) (fun i hi => absurd hi (Nat.not_lt_zero _))

