def stdE (s : Rw) (q : Nat) (but : Int32) : Nat → Bool := fun l => stdS s q l && !decide (nI l = but)
def rbB (s : Rw) (q m : Nat) (but : Int32) (a : Nat) : Nat → Bool := rcB (stdE s q but) (fN s) (tN s) m a
def rbS (s : Rw) (q m : Nat) (but : Int32) (a : Nat) : Int32 := bitsB (rbB s q m but a) 10
theorem rb_no {E : Nat → Bool} {f t : Nat → Nat} {P : Nat → Bool} {i : Nat} (h : E i = false ∨ (pasR E f t P i (f i) || pasR E f t P i (t i)) = false) : bitsB (pasR E f t P i) 10 ||| 0 = bitsB (pasR E f t P (i + 1)) 10 := by
  rw [or_0]
  show _ = bitsB (jnR E f t i (pasR E f t P i)) 10
  unfold jnR
  rw [if_neg (by rcases h with h | h <;> simp [h])]
theorem rb_yes {E : Nat → Bool} {f t : Nat → Nat} {P : Nat → Bool} {i : Nat} (hf : f i < 10) (ht : t i < 10) (hE : E i = true) (h : ¬ (pasR E f t P i (f i) || pasR E f t P i (t i)) = false) : bitsB (pasR E f t P i) 10 ||| (1 <<< (nI (f i) &&& 31) ||| 1 <<< (nI (t i) &&& 31)) = bitsB (pasR E f t P (i + 1)) 10 := by
  rw [bits_or2 hf ht (by decide)]
  show _ = bitsB (jnR E f t i (pasR E f t P i)) 10
  unfold jnR
  rw [if_pos (by rw [hE, Bool.true_and]; simpa only [Bool.not_eq_false] using h)]

theorem lp_rbI {d : Nat} {mi : MI} {mr : MR} {Q : QT} (hM : MB mr) {s : Rw} (hs : mi 1 = s) {n m p q : Nat} (hI : Inv s n m p q) {a : Nat} {but : Int32} {P : Nat → Bool} (ho : ∀ mi2, SB mi mi2 → ∀ x6 : Value, catL x6 = true → WP (d + 5) mX12_reachedBut 7 [.ref 0, .int (nI a), .int but, .int (bitsB (pasR (stdE s q but) (fN s) (tN s) P m) 10), .int (bitsB P 10), .int (nI m), x6] [] shM mi2 mr 0 0 Q) :
    ∀ (k i : Nat), i + k = m → ∀ mi2, SB mi mi2 → ∀ x6 : Value, catL x6 = true → WP (d + 5) mX12_reachedBut 19 [.ref 0, .int (nI a), .int but, .int (bitsB (pasR (stdE s q but) (fN s) (tN s) P i) 10), .int (bitsB P 10), .int (nI i), x6] [] shM mi2 mr 0 0 Q := by
  have hm8 := hI.m8
  have hn10 := hI.n10
  intro k
  induction k with
  | zero =>
    intro i hk mi2 hS x6 hx6
    obtain rfl : i = m := by omega
    refine r_iload (μ := mX12_reachedBut) (pc := 19) dX12_reachedBut_19 rfl ?_
    refine r_aload_n (μ := mX12_reachedBut) (pc := 21) dX12_reachedBut_21 rfl rfl rfl ?_
    refine r_getR (μ := mX12_reachedBut) (pc := 22) dX12_reachedBut_22 fpX12_7 rfl rfl (by decide) (hM _ _ rfl) ?_
    refine r_iconst (μ := mX12_reachedBut) (pc := 25) (v := 1) dX12_reachedBut_25 ic_1 ?_
    refine r_iaload (μ := mX12_reachedBut) (pc := 26) (j := 1) dX12_reachedBut_26 rfl rfl (by decide) (by decide) ?_
    rw [hS.r1, hs, hI.em]
    refine r_icmp_ge (μ := mX12_reachedBut) (pc := 27) (tgt := 88) dX12_reachedBut_27 (by decide) (fun h_27 => ?_) (fun h_27 => absurd (nI_le (Nat.le_refl _) (by omega)) h_27)
    refine r_goto (μ := mX12_reachedBut) (pc := 88) (tgt := 7) dX12_reachedBut_88 (by decide) ?_
    exact ho mi2 hS x6 hx6
  | succ k ih =>
    intro i hk mi2 hS x6 hx6
    have hf := hI.fn (show i < m by omega)
    have ht := hI.tn (show i < m by omega)
    refine r_iload (μ := mX12_reachedBut) (pc := 19) dX12_reachedBut_19 rfl ?_
    refine r_aload_n (μ := mX12_reachedBut) (pc := 21) dX12_reachedBut_21 rfl rfl rfl ?_
    refine r_getR (μ := mX12_reachedBut) (pc := 22) dX12_reachedBut_22 fpX12_7 rfl rfl (by decide) (hM _ _ rfl) ?_
    refine r_iconst (μ := mX12_reachedBut) (pc := 25) (v := 1) dX12_reachedBut_25 ic_1 ?_
    refine r_iaload (μ := mX12_reachedBut) (pc := 26) (j := 1) dX12_reachedBut_26 rfl rfl (by decide) (by decide) ?_
    rw [hS.r1, hs, hI.em]
    refine r_icmp_ge (μ := mX12_reachedBut) (pc := 27) (tgt := 88) dX12_reachedBut_27 (by decide) (fun h_27 => absurd h_27 (nI_ge (by omega) (by omega))) (fun h_27 => ?_)
    refine r_iconst (μ := mX12_reachedBut) (pc := 30) (v := 1) dX12_reachedBut_30 ic_1 ?_
    refine r_aload_n (μ := mX12_reachedBut) (pc := 31) dX12_reachedBut_31 rfl rfl rfl ?_
    refine r_iload (μ := mX12_reachedBut) (pc := 32) dX12_reachedBut_32 rfl ?_
    refine r_iconst (μ := mX12_reachedBut) (pc := 34) (v := 2) dX12_reachedBut_34 ic_2 ?_
    refine vP2 (μ := mX12_reachedBut) (pc := 35) (c0 := 12) (q0 := (RX12, TX12, 34)) (μ2 := mX12_of) dX12_reachedBut_35 rfl rfl lkX12_90 imX12_of seX12_X12_of_X12_of mwX12_of (Nat.le_of_ble_eq_true rfl) (e_of hM (hS.r1.trans hs) (by omega) (by decide)) ?_
    rw [hI.f (show i < m by omega)]
    refine r_ishl (μ := mX12_reachedBut) (pc := 38) dX12_reachedBut_38 ?_
    refine r_iconst (μ := mX12_reachedBut) (pc := 39) (v := 1) dX12_reachedBut_39 ic_1 ?_
    refine r_aload_n (μ := mX12_reachedBut) (pc := 40) dX12_reachedBut_40 rfl rfl rfl ?_
    refine r_iload (μ := mX12_reachedBut) (pc := 41) dX12_reachedBut_41 rfl ?_
    refine r_iconst (μ := mX12_reachedBut) (pc := 43) (v := 3) dX12_reachedBut_43 ic_3 ?_
    refine vP2 (μ := mX12_reachedBut) (pc := 44) (c0 := 12) (q0 := (RX12, TX12, 34)) (μ2 := mX12_of) dX12_reachedBut_44 rfl rfl lkX12_90 imX12_of seX12_X12_of_X12_of mwX12_of (Nat.le_of_ble_eq_true rfl) (e_of hM (hS.r1.trans hs) (by omega) (by decide)) ?_
    rw [hI.t (show i < m by omega)]
    refine r_ishl (μ := mX12_reachedBut) (pc := 47) dX12_reachedBut_47 ?_
    refine r_ior (μ := mX12_reachedBut) (pc := 48) dX12_reachedBut_48 ?_
    refine s_istore (μ := mX12_reachedBut) (pc := 49) (L2 := [_, _, _, _, _, _, _]) dX12_reachedBut_49 (Nat.le_of_ble_eq_true rfl) (Nat.le_of_ble_eq_true rfl) (by simp only [List.all_cons, List.all_nil, catL_i, catL_r, hx6, Bool.and_self]) rfl ?_
    refine r_iload_n (μ := mX12_reachedBut) (pc := 51) dX12_reachedBut_51 rfl rfl ?_
    refine r_iload (μ := mX12_reachedBut) (pc := 52) dX12_reachedBut_52 rfl ?_
    refine r_iload_n (μ := mX12_reachedBut) (pc := 54) dX12_reachedBut_54 rfl rfl ?_
    refine r_icmp_eq (μ := mX12_reachedBut) (pc := 55) (tgt := 79) dX12_reachedBut_55 (by decide) (fun h_55 => ?_) (fun h_55 => ?_)
    · have hno : stdE s q but i = false := by simp [stdE, h_55]
      have hS2 := hS
      refine r_iconst (μ := mX12_reachedBut) (pc := 79) (v := 0) dX12_reachedBut_79 ic_0 ?_
      refine r_ior (μ := mX12_reachedBut) (pc := 80) dX12_reachedBut_80 ?_
      refine s_istore_n (μ := mX12_reachedBut) (pc := 81) (L2 := [_, _, _, _, _, _, _]) dX12_reachedBut_81 rfl (Nat.le_of_ble_eq_true rfl) (Nat.le_of_ble_eq_true rfl) (by simp only [List.all_cons, List.all_nil, catL_i, catL_r, hx6, Bool.and_self]) rfl ?_
      refine s_iinc (μ := mX12_reachedBut) (pc := 82) (c := 1) (L2 := [_, _, _, _, _, _, _]) dX12_reachedBut_82 rfl ic_1 (Nat.le_of_ble_eq_true rfl) (by simp only [List.all_cons, List.all_nil, catL_i, catL_r, hx6, Bool.and_self]) rfl ?_
      refine r_goto (μ := mX12_reachedBut) (pc := 85) (tgt := 19) dX12_reachedBut_85 (by decide) ?_
      first
      | exact WP.L (by rw [nI_succ, rb_no (Or.inl hno)]) (ih (i + 1) (by omega) _ hS2 _ rfl)
      | exact WP.L (by rw [nI_succ, rb_no (Or.inr hno)]) (ih (i + 1) (by omega) _ hS2 _ rfl)
      | exact WP.L (by rw [nI_succ, rb_yes (by omega) (by omega) hyes (fun z => h_62 ((bits_and (by omega) (by omega) (by decide)).mpr z))]) (ih (i + 1) (by omega) _ (hS.tr h68) _ rfl)
    · refine r_iload_n (μ := mX12_reachedBut) (pc := 58) dX12_reachedBut_58 rfl rfl ?_
      refine r_iload (μ := mX12_reachedBut) (pc := 59) dX12_reachedBut_59 rfl ?_
      refine r_iand (μ := mX12_reachedBut) (pc := 61) dX12_reachedBut_61 ?_
      refine r_if_eq (μ := mX12_reachedBut) (pc := 62) (tgt := 79) dX12_reachedBut_62 (by decide) (fun h_62 => ?_) (fun h_62 => ?_)
      · have hno := (bits_and (by omega) (by omega) (by decide)).mp h_62
        have hS2 := hS
        refine r_iconst (μ := mX12_reachedBut) (pc := 79) (v := 0) dX12_reachedBut_79 ic_0 ?_
        refine r_ior (μ := mX12_reachedBut) (pc := 80) dX12_reachedBut_80 ?_
        refine s_istore_n (μ := mX12_reachedBut) (pc := 81) (L2 := [_, _, _, _, _, _, _]) dX12_reachedBut_81 rfl (Nat.le_of_ble_eq_true rfl) (Nat.le_of_ble_eq_true rfl) (by simp only [List.all_cons, List.all_nil, catL_i, catL_r, hx6, Bool.and_self]) rfl ?_
        refine s_iinc (μ := mX12_reachedBut) (pc := 82) (c := 1) (L2 := [_, _, _, _, _, _, _]) dX12_reachedBut_82 rfl ic_1 (Nat.le_of_ble_eq_true rfl) (by simp only [List.all_cons, List.all_nil, catL_i, catL_r, hx6, Bool.and_self]) rfl ?_
        refine r_goto (μ := mX12_reachedBut) (pc := 85) (tgt := 19) dX12_reachedBut_85 (by decide) ?_
        first
        | exact WP.L (by rw [nI_succ, rb_no (Or.inl hno)]) (ih (i + 1) (by omega) _ hS2 _ rfl)
        | exact WP.L (by rw [nI_succ, rb_no (Or.inr hno)]) (ih (i + 1) (by omega) _ hS2 _ rfl)
        | exact WP.L (by rw [nI_succ, rb_yes (by omega) (by omega) hyes (fun z => h_62 ((bits_and (by omega) (by omega) (by decide)).mpr z))]) (ih (i + 1) (by omega) _ (hS.tr h68) _ rfl)
      · refine r_aload_n (μ := mX12_reachedBut) (pc := 65) dX12_reachedBut_65 rfl rfl rfl ?_
        refine r_iload (μ := mX12_reachedBut) (pc := 66) dX12_reachedBut_66 rfl ?_
        refine vX1 (μ := mX12_reachedBut) (pc := 68) (c0 := 12) (q0 := (RX12, TX12, 34)) (μ2 := mX12_stands) dX12_reachedBut_68 rfl rfl lkX12_143 imX12_stands seX12_X12_stands_X12_stands mwX12_stands (Nat.le_of_ble_eq_true rfl) (c_stands hM (hS.r1.trans hs) hI (show i < m by omega)) (fun r_68 mi_68 h_68 => ?_)
        obtain ⟨rfl, h68⟩ := h_68
        refine r_if_eq (μ := mX12_reachedBut) (pc := 71) (tgt := 79) dX12_reachedBut_71 (by decide) (fun h_71 => ?_) (fun h_71 => ?_)
        · have h_71 := b2i_0 h_71
          have hno : stdE s q but i = false := by simp [stdE, h_71]
          have hS2 := hS.tr h68
          refine r_iconst (μ := mX12_reachedBut) (pc := 79) (v := 0) dX12_reachedBut_79 ic_0 ?_
          refine r_ior (μ := mX12_reachedBut) (pc := 80) dX12_reachedBut_80 ?_
          refine s_istore_n (μ := mX12_reachedBut) (pc := 81) (L2 := [_, _, _, _, _, _, _]) dX12_reachedBut_81 rfl (Nat.le_of_ble_eq_true rfl) (Nat.le_of_ble_eq_true rfl) (by simp only [List.all_cons, List.all_nil, catL_i, catL_r, hx6, Bool.and_self]) rfl ?_
          refine s_iinc (μ := mX12_reachedBut) (pc := 82) (c := 1) (L2 := [_, _, _, _, _, _, _]) dX12_reachedBut_82 rfl ic_1 (Nat.le_of_ble_eq_true rfl) (by simp only [List.all_cons, List.all_nil, catL_i, catL_r, hx6, Bool.and_self]) rfl ?_
          refine r_goto (μ := mX12_reachedBut) (pc := 85) (tgt := 19) dX12_reachedBut_85 (by decide) ?_
          first
          | exact WP.L (by rw [nI_succ, rb_no (Or.inl hno)]) (ih (i + 1) (by omega) _ hS2 _ rfl)
          | exact WP.L (by rw [nI_succ, rb_no (Or.inr hno)]) (ih (i + 1) (by omega) _ hS2 _ rfl)
          | exact WP.L (by rw [nI_succ, rb_yes (by omega) (by omega) hyes (fun z => h_62 ((bits_and (by omega) (by omega) (by decide)).mpr z))]) (ih (i + 1) (by omega) _ (hS.tr h68) _ rfl)
        · have h_71 := b2i_1 h_71
          have hyes : stdE s q but i = true := by simp [stdE, h_71, h_55]
          refine r_iload (μ := mX12_reachedBut) (pc := 74) dX12_reachedBut_74 rfl ?_
          refine r_goto (μ := mX12_reachedBut) (pc := 76) (tgt := 80) dX12_reachedBut_76 (by decide) ?_
          refine r_ior (μ := mX12_reachedBut) (pc := 80) dX12_reachedBut_80 ?_
          refine s_istore_n (μ := mX12_reachedBut) (pc := 81) (L2 := [_, _, _, _, _, _, _]) dX12_reachedBut_81 rfl (Nat.le_of_ble_eq_true rfl) (Nat.le_of_ble_eq_true rfl) (by simp only [List.all_cons, List.all_nil, catL_i, catL_r, hx6, Bool.and_self]) rfl ?_
          refine s_iinc (μ := mX12_reachedBut) (pc := 82) (c := 1) (L2 := [_, _, _, _, _, _, _]) dX12_reachedBut_82 rfl ic_1 (Nat.le_of_ble_eq_true rfl) (by simp only [List.all_cons, List.all_nil, catL_i, catL_r, hx6, Bool.and_self]) rfl ?_
          refine r_goto (μ := mX12_reachedBut) (pc := 85) (tgt := 19) dX12_reachedBut_85 (by decide) ?_
          first
          | exact WP.L (by rw [nI_succ, rb_no (Or.inl hno)]) (ih (i + 1) (by omega) _ hS2 _ rfl)
          | exact WP.L (by rw [nI_succ, rb_no (Or.inr hno)]) (ih (i + 1) (by omega) _ hS2 _ rfl)
          | exact WP.L (by rw [nI_succ, rb_yes (by omega) (by omega) hyes (fun z => h_62 ((bits_and (by omega) (by omega) (by decide)).mpr z))]) (ih (i + 1) (by omega) _ (hS.tr h68) _ rfl)

theorem lp_rbX {d : Nat} {mi : MI} {mr : MR} {Q : QT} (hM : MB mr) {s : Rw} (hs : mi 1 = s) {n m p q : Nat} (hI : Inv s n m p q) {a : Nat} {but : Int32} (ha : a < n) {P : Nat → Bool} (h1 : P a = true) (h2 : ∀ b, P b = true → Rch (stdE s q but) (fN s) (tN s) m a b) (h3 : ClR (stdE s q but) (fN s) (tN s) m P) (hq : ∀ mi2, SB mi mi2 → Q (some (.int (rbS s q m but a))) shM mi2 mr) {mi2 : MI} (hS : SB mi mi2) {x5 x6 : Value} : WP (d + 5) mX12_reachedBut 7 [.ref 0, .int (nI a), .int but, .int (bitsB P 10), .int (bitsB P 10), x5, x6] [] shM mi2 mr 0 0 Q := by
  have hn10 := hI.n10
  have hx : bitsB P 10 = rbS s q m but a := bits_cong 10 (fun b _ => rcB_un (fun l hl => by have := hI.fn hl; omega) (fun l hl => by have := hI.tn hl; omega) h1 h2 h3 b)
  refine r_iload (μ := mX12_reachedBut) (pc := 7) dX12_reachedBut_7 rfl ?_
  refine r_iload_n (μ := mX12_reachedBut) (pc := 9) dX12_reachedBut_9 rfl rfl ?_
  refine r_icmp_eq (μ := mX12_reachedBut) (pc := 10) (tgt := 91) dX12_reachedBut_10 (by decide) (fun h_10 => ?_) (fun h_10 => absurd rfl h_10)
  refine r_iload_n (μ := mX12_reachedBut) (pc := 91) dX12_reachedBut_91 rfl rfl ?_
  exact r_iret (μ := mX12_reachedBut) (pc := 92) dX12_reachedBut_92 rfl rfl (hx ▸ hq _ hS)

theorem lp_rbO {d : Nat} {mi : MI} {mr : MR} {Q : QT} (hM : MB mr) {s : Rw} (hs : mi 1 = s) {n m p q : Nat} (hI : Inv s n m p q) {a : Nat} {but : Int32} (ha : a < n) (hq : ∀ mi2, SB mi mi2 → Q (some (.int (rbS s q m but a))) shM mi2 mr) :
    ∀ (k : Nat) (P : Nat → Bool), 10 - cntB P 10 = k → P a = true → (∀ b, P b = true → Rch (stdE s q but) (fN s) (tN s) m a b) → ∀ (pv : Int32) (x5 x6 : Value), catL x5 = true → catL x6 = true → (pv = bitsB P 10 → ClR (stdE s q but) (fN s) (tN s) m P) → ∀ mi2, SB mi mi2 → WP (d + 5) mX12_reachedBut 7 [.ref 0, .int (nI a), .int but, .int (bitsB P 10), .int pv, x5, x6] [] shM mi2 mr 0 0 Q := by
  have hn10 := hI.n10
  intro k
  induction k using Nat.strongRecOn with
  | ind k ih =>
    intro P hk h1 h2 pv x5 x6 hx5 hx6 hpv mi2 hS
    by_cases he : pv = bitsB P 10
    · rw [he]
      exact lp_rbX hM hs hI ha h1 h2 (hpv he) hq hS
    refine r_iload (μ := mX12_reachedBut) (pc := 7) dX12_reachedBut_7 rfl ?_
    refine r_iload_n (μ := mX12_reachedBut) (pc := 9) dX12_reachedBut_9 rfl rfl ?_
    refine r_icmp_eq (μ := mX12_reachedBut) (pc := 10) (tgt := 91) dX12_reachedBut_10 (by decide) (fun h_10 => absurd h_10 he) (fun h_10 => ?_)
    refine r_iload_n (μ := mX12_reachedBut) (pc := 13) dX12_reachedBut_13 rfl rfl ?_
    refine s_istore (μ := mX12_reachedBut) (pc := 14) (L2 := [_, _, _, _, _, _, _]) dX12_reachedBut_14 (Nat.le_of_ble_eq_true rfl) (Nat.le_of_ble_eq_true rfl) (by simp only [List.all_cons, List.all_nil, catL_i, catL_r, hx5, hx6, Bool.and_self]) rfl ?_
    refine r_iconst (μ := mX12_reachedBut) (pc := 16) (v := 0) dX12_reachedBut_16 ic_0 ?_
    refine s_istore (μ := mX12_reachedBut) (pc := 17) (L2 := [_, _, _, _, _, _, _]) dX12_reachedBut_17 (Nat.le_of_ble_eq_true rfl) (Nat.le_of_ble_eq_true rfl) (by simp only [List.all_cons, List.all_nil, catL_i, catL_r, hx5, hx6, Bool.and_self]) rfl ?_
    refine lp_rbI (mi := mi2) (P := P) hM (hS.r1.trans hs) hI (fun mi3 hS3 y6 hy6 => ?_) m 0 (Nat.zero_add _) mi2 (SB.rf mi2) x6 hx6
    by_cases hz : ∀ b, b < 10 → pasR (stdE s q but) (fN s) (tN s) P m b = P b
    · have h3 := pasR_fix (fun l hl => by have := hI.fn hl; omega) (fun l hl => by have := hI.tn hl; omega) hz
      rw [pasR_fx h3 m (Nat.le_refl m)]
      exact lp_rbX hM hs hI ha h1 h2 h3 hq (hS.tr hS3)
    · obtain ⟨b, hb⟩ := Classical.not_forall.mp hz
      obtain ⟨hb, h3⟩ := Classical.not_imp.mp hb
      have hlt : cntB P 10 < cntB (pasR (stdE s q but) (fN s) (tN s) P m) 10 := cnt_lt 10 (fun i _ z => pasR_m (i := 0) (Nat.zero_le _) z) ⟨b, hb, (pasR_gr h3).1, (pasR_gr h3).2⟩
      have hle := cntB_le (pasR (stdE s q but) (fN s) (tN s) P m) 10
      exact ih _ (by omega) _ rfl (pasR_m (i := 0) (Nat.zero_le _) h1) (pasR_s h2 m (Nat.le_refl m)) _ _ _ rfl hy6 (fun hp => absurd (bits_inj (by decide) hp b hb).symm h3) mi3 (hS.tr hS3)

theorem c_reachedBut {d : Nat} {mi : MI} {mr : MR} (hM : MB mr) {s : Rw} (hs : mi 1 = s) {n m p q : Nat} (hI : Inv s n m p q) {a : Nat} {but : Int32} (ha : a < n) : CP (d + 5) mX12_reachedBut [.ref 0, .int (nI a), .int but] shM mi mr 0 0 (PX shM mr (fun r mi2 => r = rbS s q m but a ∧ SB mi mi2)) := by
  have hn10 := hI.n10; have hm8 := hI.m8; have hp6 := hI.p6; have hq14 := hI.q14
  refine CP.of (L := [_, _, _, _, _, _, _]) (by decide) rfl rfl (Nat.le_of_ble_eq_true rfl) ?_
  refine r_iconst (μ := mX12_reachedBut) (pc := 0) (v := 1) dX12_reachedBut_0 ic_1 ?_
  refine r_iload_n (μ := mX12_reachedBut) (pc := 1) dX12_reachedBut_1 rfl rfl ?_
  refine r_ishl (μ := mX12_reachedBut) (pc := 2) dX12_reachedBut_2 ?_
  refine s_istore_n (μ := mX12_reachedBut) (pc := 3) (L2 := [_, _, _, _, _, _, _]) dX12_reachedBut_3 rfl (Nat.le_of_ble_eq_true rfl) (Nat.le_of_ble_eq_true rfl) rfl rfl ?_
  refine r_iconst (μ := mX12_reachedBut) (pc := 4) (v := 0) dX12_reachedBut_4 ic_0 ?_
  refine s_istore (μ := mX12_reachedBut) (pc := 5) (L2 := [_, _, _, _, _, _, _]) dX12_reachedBut_5 (Nat.le_of_ble_eq_true rfl) (Nat.le_of_ble_eq_true rfl) rfl rfl ?_
  rw [bits_one (show a < 10 by omega) (by decide)]
  exact lp_rbO hM hs hI ha (fun mi2 h => PX_i ⟨rfl, h⟩) _ _ rfl (by simp) (fun b hb => by obtain rfl := of_decide_eq_true hb; exact Rch.rf _) 0 _ _ rfl rfl (fun hz => absurd (bits_inj (P := fun _ => false) (n := 10) (by decide) (hz) a (by omega)) (by simp)) mi (SB.rf mi)

