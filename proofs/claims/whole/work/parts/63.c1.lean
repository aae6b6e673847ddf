theorem k_within {d : Nat} {sh : List Sh} {mi : MI} {mr : MR} {v w : Int32} {n : Nat} (hw : w = nI n) (hn : n < 2147483648) : CP (d) mX11_within [.int v, .int w] sh mi mr 0 0 (PI (b2i (inR v n)) sh mi mr) := by
  refine CP.of (L := [_, _]) (by decide) rfl rfl (Nat.le_of_ble_eq_true rfl) ?_
  refine r_iload_n (μ := mX11_within) (pc := 0) dX11_within_0 rfl rfl ?_
  refine r_if_lt (μ := mX11_within) (pc := 1) (tgt := 13) dX11_within_1 (by decide) (fun h_1 => ?_) (fun h_1 => ?_)
  · have hz : inR v n = false := by have := Int32.lt_iff_toInt_lt.mp h_1; have h0 : (0 : Int32).toInt = 0 := rfl; unfold inR; exact decide_eq_false (by omega)
    refine r_iconst (μ := mX11_within) (pc := 13) (v := 0) dX11_within_13 ic_0 ?_
    exact r_iret (μ := mX11_within) (pc := 14) dX11_within_14 rfl rfl (PI_i (by rw [hz]; rfl))
  · refine r_iload_n (μ := mX11_within) (pc := 4) dX11_within_4 rfl rfl ?_
    refine r_iload_n (μ := mX11_within) (pc := 5) dX11_within_5 rfl rfl ?_
    refine r_icmp_ge (μ := mX11_within) (pc := 6) (tgt := 13) dX11_within_6 (by decide) (fun h_6 => ?_) (fun h_6 => ?_)
    · have hz : inR v n = false := by have := Int32.le_iff_toInt_le.mp h_6; rw [hw, nI_toInt hn] at this; unfold inR; exact decide_eq_false (by omega)
      refine r_iconst (μ := mX11_within) (pc := 13) (v := 0) dX11_within_13 ic_0 ?_
      exact r_iret (μ := mX11_within) (pc := 14) dX11_within_14 rfl rfl (PI_i (by rw [hz]; rfl))
    · have hz : inR v n = true := by have := mt Int32.le_iff_toInt_le.mpr h_6; rw [hw, nI_toInt hn] at this; have := mt Int32.lt_iff_toInt_lt.mpr h_1; have h0 : (0 : Int32).toInt = 0 := rfl; unfold inR; exact decide_eq_true (by omega)
      refine r_iconst (μ := mX11_within) (pc := 9) (v := 1) dX11_within_9 ic_1 ?_
      refine r_goto (μ := mX11_within) (pc := 10) (tgt := 14) dX11_within_10 (by decide) ?_
      exact r_iret (μ := mX11_within) (pc := 14) dX11_within_14 rfl rfl (PI_i (by rw [hz]; rfl))

theorem k_isLength {d : Nat} {sh : List Sh} {mi : MI} {mr : MR} {v : Int32} : CP (d) mX11_isLength [.int v] sh mi mr 0 0 (PI (b2i (inB v 1 99)) sh mi mr) := by
  refine CP.of (L := [_]) (by decide) rfl rfl (Nat.le_of_ble_eq_true rfl) ?_
  refine r_iload_n (μ := mX11_isLength) (pc := 0) dX11_isLength_0 rfl rfl ?_
  refine r_iconst (μ := mX11_isLength) (pc := 1) (v := 1) dX11_isLength_1 ic_1 ?_
  refine r_icmp_lt (μ := mX11_isLength) (pc := 2) (tgt := 15) dX11_isLength_2 (by decide) (fun h_2 => ?_) (fun h_2 => ?_)
  · have hz : inB v 1 99 = false := by have := Int32.lt_iff_toInt_lt.mp h_2; have h0 : (1 : Int32).toInt = 1 := rfl; unfold inB; exact decide_eq_false (by omega)
    refine r_iconst (μ := mX11_isLength) (pc := 15) (v := 0) dX11_isLength_15 ic_0 ?_
    exact r_iret (μ := mX11_isLength) (pc := 16) dX11_isLength_16 rfl rfl (PI_i (by rw [hz]; rfl))
  · refine r_iload_n (μ := mX11_isLength) (pc := 5) dX11_isLength_5 rfl rfl ?_
    refine r_bipush (μ := mX11_isLength) (pc := 6) (v := 99) dX11_isLength_6 bp_99 ?_
    refine r_icmp_gt (μ := mX11_isLength) (pc := 8) (tgt := 15) dX11_isLength_8 (by decide) (fun h_8 => ?_) (fun h_8 => ?_)
    · have hz : inB v 1 99 = false := by have := Int32.lt_iff_toInt_lt.mp h_8; have h0 : (99 : Int32).toInt = 99 := rfl; unfold inB; exact decide_eq_false (by omega)
      refine r_iconst (μ := mX11_isLength) (pc := 15) (v := 0) dX11_isLength_15 ic_0 ?_
      exact r_iret (μ := mX11_isLength) (pc := 16) dX11_isLength_16 rfl rfl (PI_i (by rw [hz]; rfl))
    · have hz : inB v 1 99 = true := by have := mt Int32.lt_iff_toInt_lt.mpr h_8; have := mt Int32.lt_iff_toInt_lt.mpr h_2; have h0 : (1 : Int32).toInt = 1 := rfl; have h1 : (99 : Int32).toInt = 99 := rfl; unfold inB; exact decide_eq_true (by omega)
      refine r_iconst (μ := mX11_isLength) (pc := 11) (v := 1) dX11_isLength_11 ic_1 ?_
      refine r_goto (μ := mX11_isLength) (pc := 12) (tgt := 16) dX11_isLength_12 (by decide) ?_
      exact r_iret (μ := mX11_isLength) (pc := 16) dX11_isLength_16 rfl rfl (PI_i (by rw [hz]; rfl))

theorem has_b (x : Int32) {j : Nat} (hj : j < 32) : ((x.toUInt32 >>> ((nI j).toUInt32 &&& Int32.toUInt32 31)).toInt32 &&& 1 = 0) ↔ bt x j = false := by
  constructor
  · intro h
    have h2 := congrArg (fun z => bt z 0) h
    simp only [b_and, b_0] at h2
    rw [b_ushr j hj, bt_1 0 (by decide), Nat.add_zero] at h2
    simpa using h2
  · intro h
    refine b_ext (fun i hi => ?_)
    rw [b_and, b_ushr j hj, b_0, bt_1 i hi]
    by_cases hz : i = 0
    · subst hz; rw [Nat.add_zero, h]; rfl
    · simp [hz]

theorem k_has {d : Nat} {sh : List Sh} {mi : MI} {mr : MR} {x k : Int32} {j : Nat} (hk : k = nI j) (hj : j < 32) : CP (d) mX11_has [.int x, .int k] sh mi mr 0 0 (PI (b2i (bt x j)) sh mi mr) := by
  subst hk
  refine CP.of (L := [_, _]) (by decide) rfl rfl (Nat.le_of_ble_eq_true rfl) ?_
  refine r_iload_n (μ := mX11_has) (pc := 0) dX11_has_0 rfl rfl ?_
  refine r_iload_n (μ := mX11_has) (pc := 1) dX11_has_1 rfl rfl ?_
  refine r_iushr (μ := mX11_has) (pc := 2) dX11_has_2 ?_
  refine r_iconst (μ := mX11_has) (pc := 3) (v := 1) dX11_has_3 ic_1 ?_
  refine r_iand (μ := mX11_has) (pc := 4) dX11_has_4 ?_
  refine r_if_eq (μ := mX11_has) (pc := 5) (tgt := 12) dX11_has_5 (by decide) (fun h_5 => ?_) (fun h_5 => ?_)
  · have hz := (has_b x hj).mp h_5
    refine r_iconst (μ := mX11_has) (pc := 12) (v := 0) dX11_has_12 ic_0 ?_
    exact r_iret (μ := mX11_has) (pc := 13) dX11_has_13 rfl rfl (PI_i (by rw [hz]; rfl))
  · have hz : bt x j = true := by cases hq : bt x j; (· exact absurd ((has_b x hj).mpr hq) h_5); (· rfl)
    refine r_iconst (μ := mX11_has) (pc := 8) (v := 1) dX11_has_8 ic_1 ?_
    refine r_goto (μ := mX11_has) (pc := 9) (tgt := 13) dX11_has_9 (by decide) ?_
    exact r_iret (μ := mX11_has) (pc := 13) dX11_has_13 rfl rfl (PI_i (by rw [hz]; rfl))

theorem k_exchange {d : Nat} {sh : List Sh} {mi : MI} {mr : MR} {a n j : Nat} {i v : Int32} (h : sh[a]? = some (0, n)) (hi : i = nI j) (hj : j < n) (hn : n < 2147483648) : CP d mX11_exchange [.ref a, .int i, .int v] sh mi mr 0 0 (PX sh mr (fun r mi2 => r = mi a j ∧ mi2 = upI mi a j v)) := by
  refine CP.of (L := [_, _, _, _]) (by decide) rfl rfl (Nat.le_of_ble_eq_true rfl) ?_
  refine r_aload_n (μ := mX11_exchange) (pc := 0) dX11_exchange_0 rfl rfl rfl ?_
  refine r_iload_n (μ := mX11_exchange) (pc := 1) dX11_exchange_1 rfl rfl ?_
  refine r_iaload (μ := mX11_exchange) (pc := 2) (j := j) dX11_exchange_2 h hi hj hn ?_
  refine s_istore_n (μ := mX11_exchange) (pc := 3) (L2 := [_, _, _, _]) dX11_exchange_3 rfl (Nat.le_of_ble_eq_true rfl) (Nat.le_of_ble_eq_true rfl) rfl rfl ?_
  refine r_aload_n (μ := mX11_exchange) (pc := 4) dX11_exchange_4 rfl rfl rfl ?_
  refine r_iload_n (μ := mX11_exchange) (pc := 5) dX11_exchange_5 rfl rfl ?_
  refine r_iload_n (μ := mX11_exchange) (pc := 6) dX11_exchange_6 rfl rfl ?_
  refine r_iastore (μ := mX11_exchange) (pc := 7) (j := j) dX11_exchange_7 h hi hj hn ?_
  refine r_iload_n (μ := mX11_exchange) (pc := 8) dX11_exchange_8 rfl rfl ?_
  exact r_iret (μ := mX11_exchange) (pc := 9) dX11_exchange_9 rfl rfl (PX_i ⟨rfl, rfl⟩)

def ushI (x : Int32) (k : Nat) : Int32 := (x.toUInt32 >>> ((nI k).toUInt32 &&& Int32.toUInt32 31)).toInt32
def bc1 (x : Int32) : Int32 := x - (ushI x 1 &&& 1431655765)
def bc2 (x : Int32) : Int32 := (x &&& 858993459) + (ushI x 2 &&& 858993459)
def bc3 (x : Int32) : Int32 := (x + ushI x 4) &&& 252645135
def bc4 (x : Int32) : Int32 := x + ushI x 8
def bc5 (x : Int32) : Int32 := (x + ushI x 16) &&& 63
def bcS (x : Int32) : Int32 := bc5 (bc4 (bc3 (bc2 (bc1 x))))

theorem k_bitCount {d : Nat} {sh : List Sh} {mi : MI} {mr : MR} {x : Int32} : CP (d) mJ6_bitCount_0f7a4 [.int x] sh mi mr 0 0 (PI (bcS x) sh mi mr) := by
  refine CP.of (L := [_]) (by decide) rfl rfl (Nat.le_of_ble_eq_true rfl) ?_
  refine r_iload_n (μ := mJ6_bitCount_0f7a4) (pc := 0) dJ6_bitCount_0f7a4_0 rfl rfl ?_
  refine r_iload_n (μ := mJ6_bitCount_0f7a4) (pc := 1) dJ6_bitCount_0f7a4_1 rfl rfl ?_
  refine r_iconst (μ := mJ6_bitCount_0f7a4) (pc := 2) (v := 1) dJ6_bitCount_0f7a4_2 ic_1 ?_
  refine r_iushr (μ := mJ6_bitCount_0f7a4) (pc := 3) dJ6_bitCount_0f7a4_3 ?_
  refine r_ldcw (μ := mJ6_bitCount_0f7a4) (pc := 4) dJ6_bitCount_0f7a4_4 ctJ6_265 ?_
  refine r_iand (μ := mJ6_bitCount_0f7a4) (pc := 7) dJ6_bitCount_0f7a4_7 ?_
  refine r_isub (μ := mJ6_bitCount_0f7a4) (pc := 8) dJ6_bitCount_0f7a4_8 ?_
  refine s_istore_n (μ := mJ6_bitCount_0f7a4) (pc := 9) (L2 := [_]) dJ6_bitCount_0f7a4_9 rfl (Nat.le_of_ble_eq_true rfl) (Nat.le_of_ble_eq_true rfl) rfl rfl ?_
  refine r_iload_n (μ := mJ6_bitCount_0f7a4) (pc := 10) dJ6_bitCount_0f7a4_10 rfl rfl ?_
  refine r_ldcw (μ := mJ6_bitCount_0f7a4) (pc := 11) dJ6_bitCount_0f7a4_11 ctJ6_266 ?_
  refine r_iand (μ := mJ6_bitCount_0f7a4) (pc := 14) dJ6_bitCount_0f7a4_14 ?_
  refine r_iload_n (μ := mJ6_bitCount_0f7a4) (pc := 15) dJ6_bitCount_0f7a4_15 rfl rfl ?_
  refine r_iconst (μ := mJ6_bitCount_0f7a4) (pc := 16) (v := 2) dJ6_bitCount_0f7a4_16 ic_2 ?_
  refine r_iushr (μ := mJ6_bitCount_0f7a4) (pc := 17) dJ6_bitCount_0f7a4_17 ?_
  refine r_ldcw (μ := mJ6_bitCount_0f7a4) (pc := 18) dJ6_bitCount_0f7a4_18 ctJ6_266 ?_
  refine r_iand (μ := mJ6_bitCount_0f7a4) (pc := 21) dJ6_bitCount_0f7a4_21 ?_
  refine r_iadd (μ := mJ6_bitCount_0f7a4) (pc := 22) dJ6_bitCount_0f7a4_22 ?_
  refine s_istore_n (μ := mJ6_bitCount_0f7a4) (pc := 23) (L2 := [_]) dJ6_bitCount_0f7a4_23 rfl (Nat.le_of_ble_eq_true rfl) (Nat.le_of_ble_eq_true rfl) rfl rfl ?_
  refine r_iload_n (μ := mJ6_bitCount_0f7a4) (pc := 24) dJ6_bitCount_0f7a4_24 rfl rfl ?_
  refine r_iload_n (μ := mJ6_bitCount_0f7a4) (pc := 25) dJ6_bitCount_0f7a4_25 rfl rfl ?_
  refine r_iconst (μ := mJ6_bitCount_0f7a4) (pc := 26) (v := 4) dJ6_bitCount_0f7a4_26 ic_4 ?_
  refine r_iushr (μ := mJ6_bitCount_0f7a4) (pc := 27) dJ6_bitCount_0f7a4_27 ?_
  refine r_iadd (μ := mJ6_bitCount_0f7a4) (pc := 28) dJ6_bitCount_0f7a4_28 ?_
  refine r_ldcw (μ := mJ6_bitCount_0f7a4) (pc := 29) dJ6_bitCount_0f7a4_29 ctJ6_267 ?_
  refine r_iand (μ := mJ6_bitCount_0f7a4) (pc := 32) dJ6_bitCount_0f7a4_32 ?_
  refine s_istore_n (μ := mJ6_bitCount_0f7a4) (pc := 33) (L2 := [_]) dJ6_bitCount_0f7a4_33 rfl (Nat.le_of_ble_eq_true rfl) (Nat.le_of_ble_eq_true rfl) rfl rfl ?_
  refine r_iload_n (μ := mJ6_bitCount_0f7a4) (pc := 34) dJ6_bitCount_0f7a4_34 rfl rfl ?_
  refine r_iload_n (μ := mJ6_bitCount_0f7a4) (pc := 35) dJ6_bitCount_0f7a4_35 rfl rfl ?_
  refine r_bipush (μ := mJ6_bitCount_0f7a4) (pc := 36) (v := 8) dJ6_bitCount_0f7a4_36 bp_8 ?_
  refine r_iushr (μ := mJ6_bitCount_0f7a4) (pc := 38) dJ6_bitCount_0f7a4_38 ?_
  refine r_iadd (μ := mJ6_bitCount_0f7a4) (pc := 39) dJ6_bitCount_0f7a4_39 ?_
  refine s_istore_n (μ := mJ6_bitCount_0f7a4) (pc := 40) (L2 := [_]) dJ6_bitCount_0f7a4_40 rfl (Nat.le_of_ble_eq_true rfl) (Nat.le_of_ble_eq_true rfl) rfl rfl ?_
  refine r_iload_n (μ := mJ6_bitCount_0f7a4) (pc := 41) dJ6_bitCount_0f7a4_41 rfl rfl ?_
  refine r_iload_n (μ := mJ6_bitCount_0f7a4) (pc := 42) dJ6_bitCount_0f7a4_42 rfl rfl ?_
  refine r_bipush (μ := mJ6_bitCount_0f7a4) (pc := 43) (v := 16) dJ6_bitCount_0f7a4_43 bp_16 ?_
  refine r_iushr (μ := mJ6_bitCount_0f7a4) (pc := 45) dJ6_bitCount_0f7a4_45 ?_
  refine r_iadd (μ := mJ6_bitCount_0f7a4) (pc := 46) dJ6_bitCount_0f7a4_46 ?_
  refine s_istore_n (μ := mJ6_bitCount_0f7a4) (pc := 47) (L2 := [_]) dJ6_bitCount_0f7a4_47 rfl (Nat.le_of_ble_eq_true rfl) (Nat.le_of_ble_eq_true rfl) rfl rfl ?_
  refine r_iload_n (μ := mJ6_bitCount_0f7a4) (pc := 48) dJ6_bitCount_0f7a4_48 rfl rfl ?_
  refine r_bipush (μ := mJ6_bitCount_0f7a4) (pc := 49) (v := 63) dJ6_bitCount_0f7a4_49 bp_63 ?_
  refine r_iand (μ := mJ6_bitCount_0f7a4) (pc := 51) dJ6_bitCount_0f7a4_51 ?_
  exact r_iret (μ := mJ6_bitCount_0f7a4) (pc := 52) dJ6_bitCount_0f7a4_52 rfl rfl (PI_i rfl)

theorem bc_k : ∀ j, j < 1024 → bcS (nI j) = nI (cntB (bt (nI j)) 10) := by decide +kernel
theorem cnt_cut {P : Nat → Bool} {n : Nat} : ∀ k, n ≤ k → cntB (fun i => decide (i < n) && P i) k = cntB P n
  | 0, h => by obtain rfl : n = 0 := by omega
               rfl
  | k + 1, h => by
    rcases Nat.lt_or_ge k n with z | z
    · obtain rfl : n = k + 1 := by omega
      show cntB _ (k + 1) = cntB P (k + 1)
      have : ∀ i, i ≤ k + 1 → cntB (fun j => decide (j < k + 1) && P j) i = cntB P i := by
        intro i
        induction i with
        | zero => intro _; rfl
        | succ i ih =>
          intro hi
          simp only [cntB]
          rw [ih (by omega)]
          have : (decide (i < k + 1) && P i) = P i := by rw [decide_eq_true (by omega), Bool.true_and]
          simp only [this]
      exact this (k + 1) (Nat.le_refl _)
    · simp only [cntB]
      rw [cnt_cut k z]
      have : (decide (k < n) && P k) = false := by rw [decide_eq_false (by omega), Bool.false_and]
      simp only [this]
      rfl
theorem bits_nI (P : Nat → Bool) {n : Nat} (hn : n ≤ 10) : ∃ j, j < 1024 ∧ bitsB P n = nI j := by
  refine ⟨(bitsB P n).toBitVec.toNat, ?_, ?_⟩
  · refine Nat.lt_pow_two_of_testBit (n := 10) _ (fun i hi => ?_)
    rcases Nat.lt_or_ge i 32 with z | z
    · have := bt_bits P n (by omega) i z
      rw [decide_eq_false (by omega), Bool.false_and] at this
      exact this
    · exact b_big (x := bitsB P n) z
  · apply Int32.toBitVec_inj.mp
    show _ = BitVec.ofNat 32 _
    simp
theorem bc_bits (P : Nat → Bool) {n : Nat} (hn : n ≤ 10) : bcS (bitsB P n) = nI (cntB P n) := by
  obtain ⟨j, hj, e⟩ := bits_nI P hn
  rw [e, bc_k j hj, ← e]
  have h1 : cntB (bt (bitsB P n)) 10 = cntB (fun i => decide (i < n) && P i) 10 := by
    have : ∀ i, i ≤ 10 → cntB (bt (bitsB P n)) i = cntB (fun i => decide (i < n) && P i) i := by
      intro i
      induction i with
      | zero => intro _; rfl
      | succ i ih => intro hi; simp only [cntB]; rw [ih (by omega), bt_bits P n (by omega) i (by omega)]
    exact this 10 (Nat.le_refl _)
  rw [h1, cnt_cut 10 hn]
def flI (mi : MI) (a i : Nat) (v : Int32) : MI := fun x => if x = a then (fun j => if j < i then v else mi a j) else mi x
theorem flI_0 (mi : MI) (a : Nat) (v : Int32) : flI mi a 0 v = mi := by
  funext x
  by_cases h : x = a
  · subst h; simp [flI]
  · simp [flI, h]
theorem flI_s (mi : MI) (a i : Nat) (v : Int32) : upI (flI mi a i v) a i v = flI mi a (i + 1) v := by
  funext x
  by_cases h : x = a
  · subst h
    funext k
    simp only [upI, flI, upd, if_true]
    by_cases hk : k = i
    · subst hk; simp
    · have : (k < i + 1) = (k < i) := by apply propext; omega
      simp [hk, this]
  · simp [upI, flI, h]
theorem flI_ne {mi : MI} {a i x : Nat} {v : Int32} (h : x ≠ a) : flI mi a i v x = mi x := by simp [flI, h]
theorem flI_at {mi : MI} {a i j : Nat} {v : Int32} (h : j < i) : flI mi a i v a j = v := by simp [flI, h]

theorem lp_fill {d : Nat} {sh : List Sh} {mi : MI} {mr : MR} {Q : QT} {a n : Nat} {v : Int32} (h : sh[a]? = some (0, n)) (hn : n < 1000) (hq : Q none sh (flI mi a n v) mr) :
    ∀ (k i : Nat), i + k = n → WP d mJ7_fill_53178 5 [.ref a, .int v, .int (nI i), .int (nI n)] [] sh (flI mi a i v) mr 0 0 Q := by
  intro k
  induction k with
  | zero =>
    intro i hk
    obtain rfl : i = n := by omega
    refine r_iload_n (μ := mJ7_fill_53178) (pc := 5) dJ7_fill_53178_5 rfl rfl ?_
    refine r_iload_n (μ := mJ7_fill_53178) (pc := 6) dJ7_fill_53178_6 rfl rfl ?_
    refine r_icmp_ge (μ := mJ7_fill_53178) (pc := 7) (tgt := 20) dJ7_fill_53178_7 (by decide) (fun h_7 => ?_) (fun h_7 => absurd (nI_le (Nat.le_refl _) (by omega)) h_7)
    exact r_vret (μ := mJ7_fill_53178) (pc := 20) dJ7_fill_53178_20 rfl hq
  | succ k ih =>
    intro i hk
    refine r_iload_n (μ := mJ7_fill_53178) (pc := 5) dJ7_fill_53178_5 rfl rfl ?_
    refine r_iload_n (μ := mJ7_fill_53178) (pc := 6) dJ7_fill_53178_6 rfl rfl ?_
    refine r_icmp_ge (μ := mJ7_fill_53178) (pc := 7) (tgt := 20) dJ7_fill_53178_7 (by decide) (fun h_7 => absurd h_7 (nI_ge (by omega) (by omega))) (fun h_7 => ?_)
    refine r_aload_n (μ := mJ7_fill_53178) (pc := 10) dJ7_fill_53178_10 rfl rfl rfl ?_
    refine r_iload_n (μ := mJ7_fill_53178) (pc := 11) dJ7_fill_53178_11 rfl rfl ?_
    refine r_iload_n (μ := mJ7_fill_53178) (pc := 12) dJ7_fill_53178_12 rfl rfl ?_
    refine r_iastore (μ := mJ7_fill_53178) (pc := 13) (j := i) dJ7_fill_53178_13 h rfl (by omega) (by omega) ?_
    rw [flI_s]
    refine s_iinc (μ := mJ7_fill_53178) (pc := 14) (c := 1) (L2 := [_, _, _, _]) dJ7_fill_53178_14 rfl ic_1 (Nat.le_of_ble_eq_true rfl) rfl rfl ?_
    refine r_goto (μ := mJ7_fill_53178) (pc := 17) (tgt := 5) dJ7_fill_53178_17 (by decide) ?_
    exact WP.L (by rw [nI_succ]) (ih (i + 1) (by omega))

theorem k_fill {d : Nat} {sh : List Sh} {mi : MI} {mr : MR} {a n : Nat} {v : Int32} (h : sh[a]? = some (0, n)) (hn : n < 1000) : CP d mJ7_fill_53178 [.ref a, .int v] sh mi mr 0 0 (PV sh mr (fun mi2 => mi2 = flI mi a n v)) := by
  refine CP.of (L := [_, _, _, _]) (by decide) rfl rfl (Nat.le_of_ble_eq_true rfl) ?_
  refine r_iconst (μ := mJ7_fill_53178) (pc := 0) (v := 0) dJ7_fill_53178_0 ic_0 ?_
  refine s_istore_n (μ := mJ7_fill_53178) (pc := 1) (L2 := [_, _, _, _]) dJ7_fill_53178_1 rfl (Nat.le_of_ble_eq_true rfl) (Nat.le_of_ble_eq_true rfl) rfl rfl ?_
  refine r_aload_n (μ := mJ7_fill_53178) (pc := 2) dJ7_fill_53178_2 rfl rfl rfl ?_
  refine r_alen (μ := mJ7_fill_53178) (pc := 3) dJ7_fill_53178_3 (by decide) h ?_
  refine s_istore_n (μ := mJ7_fill_53178) (pc := 4) (L2 := [_, _, _, _]) dJ7_fill_53178_4 rfl (Nat.le_of_ble_eq_true rfl) (Nat.le_of_ble_eq_true rfl) rfl rfl ?_
  have hl := lp_fill (d := d) (mr := mr) (mi := mi) (Q := PV sh mr (fun mi2 => mi2 = flI mi a n v)) h hn (PV_i rfl) n 0 (Nat.zero_add _)
  rw [flI_0] at hl
  exact hl

theorem k_X4_reach {d : Nat} {sh : List Sh} {mi : MI} {mr : MR} {a c0 n0 : Nat} {q0 : vw_C} (h : sh[a]? = some (c0 + 4, n0)) (hq : cls[c0]? = some q0) {x : Int32} : CP (d) mX4_reach [.ref a, .int x] sh mi mr 0 0 (PI (x) sh mi mr) := by
  refine CP.of (L := [_, _]) (by decide) rfl rfl (Nat.le_of_ble_eq_true rfl) ?_
  refine r_iload_n (μ := mX4_reach) (pc := 0) dX4_reach_0 rfl rfl ?_
  exact r_iret (μ := mX4_reach) (pc := 1) dX4_reach_1 rfl rfl (PI_i rfl)

theorem k_X6_reach {d : Nat} {sh : List Sh} {mi : MI} {mr : MR} {a c0 n0 : Nat} {q0 : vw_C} (h : sh[a]? = some (c0 + 4, n0)) (hq : cls[c0]? = some q0) {x : Int32} : CP (d + 1) mX6_reach [.ref a, .int x] sh mi mr 0 0 (PI (x + 3) sh mi mr) := by
  refine CP.of (L := [_, _]) (by decide) rfl rfl (Nat.le_of_ble_eq_true rfl) ?_
  refine r_aload_n (μ := mX6_reach) (pc := 0) dX6_reach_0 rfl rfl rfl ?_
  refine r_iload_n (μ := mX6_reach) (pc := 1) dX6_reach_1 rfl rfl ?_
  refine uP1 (μ := mX6_reach) (pc := 2) (μ2 := mX4_reach) dX6_reach_2 h hq (by decide) lkX6_11 smX4_X4_reach suX6_X4 imX4_reach mwX4_reach (Nat.le_of_ble_eq_true rfl) (k_X4_reach h hq) ?_
  refine r_iconst (μ := mX6_reach) (pc := 5) (v := 3) dX6_reach_5 ic_3 ?_
  refine r_iadd (μ := mX6_reach) (pc := 6) dX6_reach_6 ?_
  exact r_iret (μ := mX6_reach) (pc := 7) dX6_reach_7 rfl rfl (PI_i rfl)

theorem k_X0_reach {d : Nat} {sh : List Sh} {mi : MI} {mr : MR} {a c0 n0 : Nat} {q0 : vw_C} (h : sh[a]? = some (c0 + 4, n0)) (hq : cls[c0]? = some q0) {x : Int32} : CP (d + 2) mX0_reach [.ref a, .int x] sh mi mr 0 0 (PI (x + 3 + x / 4) sh mi mr) := by
  refine CP.of (L := [_, _]) (by decide) rfl rfl (Nat.le_of_ble_eq_true rfl) ?_
  refine r_aload_n (μ := mX0_reach) (pc := 0) dX0_reach_0 rfl rfl rfl ?_
  refine r_iload_n (μ := mX0_reach) (pc := 1) dX0_reach_1 rfl rfl ?_
  refine uP1 (μ := mX0_reach) (pc := 2) (μ2 := mX6_reach) dX0_reach_2 h hq (by decide) lkX0_11 smX6_X6_reach suX0_X6 imX6_reach mwX6_reach (Nat.le_of_ble_eq_true rfl) (k_X6_reach h hq) ?_
  refine r_iload_n (μ := mX0_reach) (pc := 5) dX0_reach_5 rfl rfl ?_
  refine r_iconst (μ := mX0_reach) (pc := 6) (v := 4) dX0_reach_6 ic_4 ?_
  refine r_idiv (μ := mX0_reach) (pc := 7) dX0_reach_7 (by decide) ?_
  refine r_iadd (μ := mX0_reach) (pc := 8) dX0_reach_8 ?_
  exact r_iret (μ := mX0_reach) (pc := 9) dX0_reach_9 rfl rfl (PI_i rfl)

theorem k_X1_reach {d : Nat} {sh : List Sh} {mi : MI} {mr : MR} {a c0 n0 : Nat} {q0 : vw_C} (h : sh[a]? = some (c0 + 4, n0)) (hq : cls[c0]? = some q0) {x : Int32} : CP (d + 1) mX1_reach [.ref a, .int x] sh mi mr 0 0 (PI (x / 2) sh mi mr) := by
  refine CP.of (L := [_, _]) (by decide) rfl rfl (Nat.le_of_ble_eq_true rfl) ?_
  refine r_aload_n (μ := mX1_reach) (pc := 0) dX1_reach_0 rfl rfl rfl ?_
  refine r_iload_n (μ := mX1_reach) (pc := 1) dX1_reach_1 rfl rfl ?_
  refine uP1 (μ := mX1_reach) (pc := 2) (μ2 := mX4_reach) dX1_reach_2 h hq (by decide) lkX1_11 smX4_X4_reach suX1_X4 imX4_reach mwX4_reach (Nat.le_of_ble_eq_true rfl) (k_X4_reach h hq) ?_
  refine r_iconst (μ := mX1_reach) (pc := 5) (v := 2) dX1_reach_5 ic_2 ?_
  refine r_idiv (μ := mX1_reach) (pc := 6) dX1_reach_6 (by decide) ?_
  exact r_iret (μ := mX1_reach) (pc := 7) dX1_reach_7 rfl rfl (PI_i rfl)

theorem k_X3_reach {d : Nat} {sh : List Sh} {mi : MI} {mr : MR} {a c0 n0 : Nat} {q0 : vw_C} (h : sh[a]? = some (c0 + 4, n0)) (hq : cls[c0]? = some q0) {x : Int32} : CP (d + 1) mX3_reach [.ref a, .int x] sh mi mr 0 0 (PI (mxI 0 (x - 2)) sh mi mr) := by
  refine CP.of (L := [_, _]) (by decide) rfl rfl (Nat.le_of_ble_eq_true rfl) ?_
  refine r_iconst (μ := mX3_reach) (pc := 0) (v := 0) dX3_reach_0 ic_0 ?_
  refine r_aload_n (μ := mX3_reach) (pc := 1) dX3_reach_1 rfl rfl rfl ?_
  refine r_iload_n (μ := mX3_reach) (pc := 2) dX3_reach_2 rfl rfl ?_
  refine tP1 (μ := mX3_reach) (pc := 3) (x := ⟨"LadderTown$HeavyKind", "reach", "(I)I"⟩) (μ2 := mX4_reach) dX3_reach_3 h hq (by decide) ⟨rfl, rfl⟩ lkX3_11 smX2_X4_reach suX3_X2 suX2_X4 imX4_reach mwX4_reach (Nat.le_of_ble_eq_true rfl) (k_X4_reach h hq) ?_
  refine r_iconst (μ := mX3_reach) (pc := 6) (v := 2) dX3_reach_6 ic_2 ?_
  refine r_isub (μ := mX3_reach) (pc := 7) dX3_reach_7 ?_
  refine r_mmax (μ := mX3_reach) (pc := 8) dX3_reach_8 lkX3_15 (Nat.le_of_ble_eq_true rfl) ?_
  exact r_iret (μ := mX3_reach) (pc := 11) dX3_reach_11 rfl rfl (PI_i rfl)

theorem k_X4_minutes {d : Nat} {sh : List Sh} {mi : MI} {mr : MR} {a c0 n0 : Nat} {q0 : vw_C} (h : sh[a]? = some (c0 + 4, n0)) (hq : cls[c0]? = some q0) {x : Int32} : CP (d) mX4_minutes [.ref a, .int x] sh mi mr 0 0 (PI (x / 5 + 1) sh mi mr) := by
  refine CP.of (L := [_, _]) (by decide) rfl rfl (Nat.le_of_ble_eq_true rfl) ?_
  refine r_iload_n (μ := mX4_minutes) (pc := 0) dX4_minutes_0 rfl rfl ?_
  refine r_iconst (μ := mX4_minutes) (pc := 1) (v := 5) dX4_minutes_1 ic_5 ?_
  refine r_idiv (μ := mX4_minutes) (pc := 2) dX4_minutes_2 (by decide) ?_
  refine r_iconst (μ := mX4_minutes) (pc := 3) (v := 1) dX4_minutes_3 ic_1 ?_
  refine r_iadd (μ := mX4_minutes) (pc := 4) dX4_minutes_4 ?_
  exact r_iret (μ := mX4_minutes) (pc := 5) dX4_minutes_5 rfl rfl (PI_i rfl)

theorem k_X6_minutes {d : Nat} {sh : List Sh} {mi : MI} {mr : MR} {a c0 n0 : Nat} {q0 : vw_C} (h : sh[a]? = some (c0 + 4, n0)) (hq : cls[c0]? = some q0) {x : Int32} : CP (d + 1) mX6_minutes [.ref a, .int x] sh mi mr 0 0 (PI (2 * (x / 5 + 1)) sh mi mr) := by
  refine CP.of (L := [_, _]) (by decide) rfl rfl (Nat.le_of_ble_eq_true rfl) ?_
  refine r_iconst (μ := mX6_minutes) (pc := 0) (v := 2) dX6_minutes_0 ic_2 ?_
  refine r_aload_n (μ := mX6_minutes) (pc := 1) dX6_minutes_1 rfl rfl rfl ?_
  refine r_iload_n (μ := mX6_minutes) (pc := 2) dX6_minutes_2 rfl rfl ?_
  refine uP1 (μ := mX6_minutes) (pc := 3) (μ2 := mX4_minutes) dX6_minutes_3 h hq (by decide) lkX6_15 smX4_X4_minutes suX6_X4 imX4_minutes mwX4_minutes (Nat.le_of_ble_eq_true rfl) (k_X4_minutes h hq) ?_
  refine r_imul (μ := mX6_minutes) (pc := 6) dX6_minutes_6 ?_
  exact r_iret (μ := mX6_minutes) (pc := 7) dX6_minutes_7 rfl rfl (PI_i rfl)

theorem k_X0_minutes {d : Nat} {sh : List Sh} {mi : MI} {mr : MR} {a c0 n0 : Nat} {q0 : vw_C} (h : sh[a]? = some (c0 + 4, n0)) (hq : cls[c0]? = some q0) {x : Int32} : CP (d + 2) mX0_minutes [.ref a, .int x] sh mi mr 0 0 (PI (2 * (x / 5 + 1) - 1) sh mi mr) := by
  refine CP.of (L := [_, _]) (by decide) rfl rfl (Nat.le_of_ble_eq_true rfl) ?_
  refine r_aload_n (μ := mX0_minutes) (pc := 0) dX0_minutes_0 rfl rfl rfl ?_
  refine r_iload_n (μ := mX0_minutes) (pc := 1) dX0_minutes_1 rfl rfl ?_
  refine uP1 (μ := mX0_minutes) (pc := 2) (μ2 := mX6_minutes) dX0_minutes_2 h hq (by decide) lkX0_15 smX6_X6_minutes suX0_X6 imX6_minutes mwX6_minutes (Nat.le_of_ble_eq_true rfl) (k_X6_minutes h hq) ?_
  refine r_iconst (μ := mX0_minutes) (pc := 5) (v := 1) dX0_minutes_5 ic_1 ?_
  refine r_isub (μ := mX0_minutes) (pc := 6) dX0_minutes_6 ?_
  exact r_iret (μ := mX0_minutes) (pc := 7) dX0_minutes_7 rfl rfl (PI_i rfl)

theorem k_X2_minutes {d : Nat} {sh : List Sh} {mi : MI} {mr : MR} {a c0 n0 : Nat} {q0 : vw_C} (h : sh[a]? = some (c0 + 4, n0)) (hq : cls[c0]? = some q0) {x : Int32} : CP (d + 1) mX2_minutes [.ref a, .int x] sh mi mr 0 0 (PI (x / 5 + 1 + 1) sh mi mr) := by
  refine CP.of (L := [_, _]) (by decide) rfl rfl (Nat.le_of_ble_eq_true rfl) ?_
  refine r_aload_n (μ := mX2_minutes) (pc := 0) dX2_minutes_0 rfl rfl rfl ?_
  refine r_iload_n (μ := mX2_minutes) (pc := 1) dX2_minutes_1 rfl rfl ?_
  refine uP1 (μ := mX2_minutes) (pc := 2) (μ2 := mX4_minutes) dX2_minutes_2 h hq (by decide) lkX2_11 smX4_X4_minutes suX2_X4 imX4_minutes mwX4_minutes (Nat.le_of_ble_eq_true rfl) (k_X4_minutes h hq) ?_
  refine r_iconst (μ := mX2_minutes) (pc := 5) (v := 1) dX2_minutes_5 ic_1 ?_
  refine r_iadd (μ := mX2_minutes) (pc := 6) dX2_minutes_6 ?_
  exact r_iret (μ := mX2_minutes) (pc := 7) dX2_minutes_7 rfl rfl (PI_i rfl)

theorem k_X4_worth {d : Nat} {sh : List Sh} {mi : MI} {mr : MR} {a c0 n0 : Nat} {q0 : vw_C} (h : sh[a]? = some (c0 + 4, n0)) (hq : cls[c0]? = some q0) {x : Int32} : CP (d) mX4_worth [.ref a, .int x] sh mi mr 0 0 (PI (x) sh mi mr) := by
  refine CP.of (L := [_, _]) (by decide) rfl rfl (Nat.le_of_ble_eq_true rfl) ?_
  refine r_iload_n (μ := mX4_worth) (pc := 0) dX4_worth_0 rfl rfl ?_
  exact r_iret (μ := mX4_worth) (pc := 1) dX4_worth_1 rfl rfl (PI_i rfl)

theorem k_X6_worth {d : Nat} {sh : List Sh} {mi : MI} {mr : MR} {a c0 n0 : Nat} {q0 : vw_C} (h : sh[a]? = some (c0 + 4, n0)) (hq : cls[c0]? = some q0) {x : Int32} : CP (d + 1) mX6_worth [.ref a, .int x] sh mi mr 0 0 (PI (x - 4) sh mi mr) := by
  refine CP.of (L := [_, _]) (by decide) rfl rfl (Nat.le_of_ble_eq_true rfl) ?_
  refine r_aload_n (μ := mX6_worth) (pc := 0) dX6_worth_0 rfl rfl rfl ?_
  refine r_iload_n (μ := mX6_worth) (pc := 1) dX6_worth_1 rfl rfl ?_
  refine uP1 (μ := mX6_worth) (pc := 2) (μ2 := mX4_worth) dX6_worth_2 h hq (by decide) lkX6_18 smX4_X4_worth suX6_X4 imX4_worth mwX4_worth (Nat.le_of_ble_eq_true rfl) (k_X4_worth h hq) ?_
  refine r_iconst (μ := mX6_worth) (pc := 5) (v := 4) dX6_worth_5 ic_4 ?_
  refine r_isub (μ := mX6_worth) (pc := 6) dX6_worth_6 ?_
  exact r_iret (μ := mX6_worth) (pc := 7) dX6_worth_7 rfl rfl (PI_i rfl)

theorem k_X0_worth {d : Nat} {sh : List Sh} {mi : MI} {mr : MR} {a c0 n0 : Nat} {q0 : vw_C} (h : sh[a]? = some (c0 + 4, n0)) (hq : cls[c0]? = some q0) {x : Int32} : CP (d + 2) mX0_worth [.ref a, .int x] sh mi mr 0 0 (PI (2 * (x - 4)) sh mi mr) := by
  refine CP.of (L := [_, _]) (by decide) rfl rfl (Nat.le_of_ble_eq_true rfl) ?_
  refine r_iconst (μ := mX0_worth) (pc := 0) (v := 2) dX0_worth_0 ic_2 ?_
  refine r_aload_n (μ := mX0_worth) (pc := 1) dX0_worth_1 rfl rfl rfl ?_
  refine r_iload_n (μ := mX0_worth) (pc := 2) dX0_worth_2 rfl rfl ?_
  refine uP1 (μ := mX0_worth) (pc := 3) (μ2 := mX6_worth) dX0_worth_3 h hq (by decide) lkX0_18 smX6_X6_worth suX0_X6 imX6_worth mwX6_worth (Nat.le_of_ble_eq_true rfl) (k_X6_worth h hq) ?_
  refine r_imul (μ := mX0_worth) (pc := 6) dX0_worth_6 ?_
  exact r_iret (μ := mX0_worth) (pc := 7) dX0_worth_7 rfl rfl (PI_i rfl)

theorem k_X2_worth {d : Nat} {sh : List Sh} {mi : MI} {mr : MR} {a c0 n0 : Nat} {q0 : vw_C} (h : sh[a]? = some (c0 + 4, n0)) (hq : cls[c0]? = some q0) {x : Int32} : CP (d + 1) mX2_worth [.ref a, .int x] sh mi mr 0 0 (PI (x + 9) sh mi mr) := by
  refine CP.of (L := [_, _]) (by decide) rfl rfl (Nat.le_of_ble_eq_true rfl) ?_
  refine r_aload_n (μ := mX2_worth) (pc := 0) dX2_worth_0 rfl rfl rfl ?_
  refine r_iload_n (μ := mX2_worth) (pc := 1) dX2_worth_1 rfl rfl ?_
  refine uP1 (μ := mX2_worth) (pc := 2) (μ2 := mX4_worth) dX2_worth_2 h hq (by decide) lkX2_15 smX4_X4_worth suX2_X4 imX4_worth mwX4_worth (Nat.le_of_ble_eq_true rfl) (k_X4_worth h hq) ?_
  refine r_bipush (μ := mX2_worth) (pc := 5) (v := 9) dX2_worth_5 bp_9 ?_
  refine r_iadd (μ := mX2_worth) (pc := 7) dX2_worth_7 ?_
  exact r_iret (μ := mX2_worth) (pc := 8) dX2_worth_8 rfl rfl (PI_i rfl)

theorem k_X3_worth {d : Nat} {sh : List Sh} {mi : MI} {mr : MR} {a c0 n0 : Nat} {q0 : vw_C} (h : sh[a]? = some (c0 + 4, n0)) (hq : cls[c0]? = some q0) {x : Int32} : CP (d + 2) mX3_worth [.ref a, .int x] sh mi mr 0 0 (PI (x + 9 + 20) sh mi mr) := by
  refine CP.of (L := [_, _]) (by decide) rfl rfl (Nat.le_of_ble_eq_true rfl) ?_
  refine r_aload_n (μ := mX3_worth) (pc := 0) dX3_worth_0 rfl rfl rfl ?_
  refine r_iload_n (μ := mX3_worth) (pc := 1) dX3_worth_1 rfl rfl ?_
  refine uP1 (μ := mX3_worth) (pc := 2) (μ2 := mX2_worth) dX3_worth_2 h hq (by decide) lkX3_21 smX2_X2_worth suX3_X2 imX2_worth mwX2_worth (Nat.le_of_ble_eq_true rfl) (k_X2_worth h hq) ?_
  refine r_bipush (μ := mX3_worth) (pc := 5) (v := 20) dX3_worth_5 bp_20 ?_
  refine r_iadd (μ := mX3_worth) (pc := 7) dX3_worth_7 ?_
  exact r_iret (μ := mX3_worth) (pc := 8) dX3_worth_8 rfl rfl (PI_i rfl)

theorem k_X1_worth {d : Nat} {sh : List Sh} {mi : MI} {mr : MR} {a c0 n0 : Nat} {q0 : vw_C} (h : sh[a]? = some (c0 + 4, n0)) (hq : cls[c0]? = some q0) {x : Int32} : CP (d) mX1_worth [.ref a, .int x] sh mi mr 0 0 (PI (40 - x) sh mi mr) := by
  refine CP.of (L := [_, _]) (by decide) rfl rfl (Nat.le_of_ble_eq_true rfl) ?_
  refine r_bipush (μ := mX1_worth) (pc := 0) (v := 40) dX1_worth_0 bp_40 ?_
  refine r_iload_n (μ := mX1_worth) (pc := 2) dX1_worth_2 rfl rfl ?_
  refine r_isub (μ := mX1_worth) (pc := 3) dX1_worth_3 ?_
  exact r_iret (μ := mX1_worth) (pc := 4) dX1_worth_4 rfl rfl (PI_i rfl)

theorem k_X4_isKind {d : Nat} {sh : List Sh} {mi : MI} {mr : MR} {a c0 n0 : Nat} {q0 : vw_C} (h : sh[a]? = some (c0 + 4, n0)) (hq : cls[c0]? = some q0) {x : Int32} : CP (d) mX4_isKind [.ref a, .int x] sh mi mr 0 0 (PI (b2i (decide (x = 0))) sh mi mr) := by
  refine CP.of (L := [_, _]) (by decide) rfl rfl (Nat.le_of_ble_eq_true rfl) ?_
  refine r_iload_n (μ := mX4_isKind) (pc := 0) dX4_isKind_0 rfl rfl ?_
  refine r_if_ne (μ := mX4_isKind) (pc := 1) (tgt := 8) dX4_isKind_1 (by decide) (fun h_1 => ?_) (fun h_1 => ?_)
  · refine r_iconst (μ := mX4_isKind) (pc := 8) (v := 0) dX4_isKind_8 ic_0 ?_
    exact r_iret (μ := mX4_isKind) (pc := 9) dX4_isKind_9 rfl rfl (PI_i (by simp [b2i, h_1]))
  · refine r_iconst (μ := mX4_isKind) (pc := 4) (v := 1) dX4_isKind_4 ic_1 ?_
    refine r_goto (μ := mX4_isKind) (pc := 5) (tgt := 9) dX4_isKind_5 (by decide) ?_
    exact r_iret (μ := mX4_isKind) (pc := 9) dX4_isKind_9 rfl rfl (PI_i (by simp [b2i, h_1]))

theorem k_X6_isKind {d : Nat} {sh : List Sh} {mi : MI} {mr : MR} {a c0 n0 : Nat} {q0 : vw_C} (h : sh[a]? = some (c0 + 4, n0)) (hq : cls[c0]? = some q0) {x : Int32} : CP (d + 1) mX6_isKind [.ref a, .int x] sh mi mr 0 0 (PI (b2i (decide (x = 1) || decide (x = 0))) sh mi mr) := by
  refine CP.of (L := [_, _]) (by decide) rfl rfl (Nat.le_of_ble_eq_true rfl) ?_
  refine r_iload_n (μ := mX6_isKind) (pc := 0) dX6_isKind_0 rfl rfl ?_
  refine r_iconst (μ := mX6_isKind) (pc := 1) (v := 1) dX6_isKind_1 ic_1 ?_
  refine r_icmp_eq (μ := mX6_isKind) (pc := 2) (tgt := 13) dX6_isKind_2 (by decide) (fun h_2 => ?_) (fun h_2 => ?_)
  · refine r_iconst (μ := mX6_isKind) (pc := 13) (v := 1) dX6_isKind_13 ic_1 ?_
    refine r_goto (μ := mX6_isKind) (pc := 14) (tgt := 18) dX6_isKind_14 (by decide) ?_
    exact r_iret (μ := mX6_isKind) (pc := 18) dX6_isKind_18 rfl rfl (PI_i (by first | (rw [h_10, Bool.or_false]; simp [b2i, h_2]; done) | (rw [h_10]; simp [b2i]; done) | (simp [b2i, h_2]; done)))
  · refine r_aload_n (μ := mX6_isKind) (pc := 5) dX6_isKind_5 rfl rfl rfl ?_
    refine r_iload_n (μ := mX6_isKind) (pc := 6) dX6_isKind_6 rfl rfl ?_
    refine uP1 (μ := mX6_isKind) (pc := 7) (μ2 := mX4_isKind) dX6_isKind_7 h hq (by decide) lkX6_7 smX4_X4_isKind suX6_X4 imX4_isKind mwX4_isKind (Nat.le_of_ble_eq_true rfl) (k_X4_isKind h hq) ?_
    refine r_if_eq (μ := mX6_isKind) (pc := 10) (tgt := 17) dX6_isKind_10 (by decide) (fun h_10 => ?_) (fun h_10 => ?_)
    · have h_10 := b2i_0 h_10
      refine r_iconst (μ := mX6_isKind) (pc := 17) (v := 0) dX6_isKind_17 ic_0 ?_
      exact r_iret (μ := mX6_isKind) (pc := 18) dX6_isKind_18 rfl rfl (PI_i (by first | (rw [h_10, Bool.or_false]; simp [b2i, h_2]; done) | (rw [h_10]; simp [b2i]; done) | (simp [b2i, h_2]; done)))
    · have h_10 := b2i_1 h_10
      refine r_iconst (μ := mX6_isKind) (pc := 13) (v := 1) dX6_isKind_13 ic_1 ?_
      refine r_goto (μ := mX6_isKind) (pc := 14) (tgt := 18) dX6_isKind_14 (by decide) ?_
      exact r_iret (μ := mX6_isKind) (pc := 18) dX6_isKind_18 rfl rfl (PI_i (by first | (rw [h_10, Bool.or_false]; simp [b2i, h_2]; done) | (rw [h_10]; simp [b2i]; done) | (simp [b2i, h_2]; done)))

theorem k_X2_isKind {d : Nat} {sh : List Sh} {mi : MI} {mr : MR} {a c0 n0 : Nat} {q0 : vw_C} (h : sh[a]? = some (c0 + 4, n0)) (hq : cls[c0]? = some q0) {x : Int32} : CP (d + 1) mX2_isKind [.ref a, .int x] sh mi mr 0 0 (PI (b2i (decide (x = 2) || decide (x = 0))) sh mi mr) := by
  refine CP.of (L := [_, _]) (by decide) rfl rfl (Nat.le_of_ble_eq_true rfl) ?_
  refine r_iload_n (μ := mX2_isKind) (pc := 0) dX2_isKind_0 rfl rfl ?_
  refine r_iconst (μ := mX2_isKind) (pc := 1) (v := 2) dX2_isKind_1 ic_2 ?_
  refine r_icmp_eq (μ := mX2_isKind) (pc := 2) (tgt := 13) dX2_isKind_2 (by decide) (fun h_2 => ?_) (fun h_2 => ?_)
  · refine r_iconst (μ := mX2_isKind) (pc := 13) (v := 1) dX2_isKind_13 ic_1 ?_
    refine r_goto (μ := mX2_isKind) (pc := 14) (tgt := 18) dX2_isKind_14 (by decide) ?_
    exact r_iret (μ := mX2_isKind) (pc := 18) dX2_isKind_18 rfl rfl (PI_i (by first | (rw [h_10, Bool.or_false]; simp [b2i, h_2]; done) | (rw [h_10]; simp [b2i]; done) | (simp [b2i, h_2]; done)))
  · refine r_aload_n (μ := mX2_isKind) (pc := 5) dX2_isKind_5 rfl rfl rfl ?_
    refine r_iload_n (μ := mX2_isKind) (pc := 6) dX2_isKind_6 rfl rfl ?_
    refine uP1 (μ := mX2_isKind) (pc := 7) (μ2 := mX4_isKind) dX2_isKind_7 h hq (by decide) lkX2_7 smX4_X4_isKind suX2_X4 imX4_isKind mwX4_isKind (Nat.le_of_ble_eq_true rfl) (k_X4_isKind h hq) ?_
    refine r_if_eq (μ := mX2_isKind) (pc := 10) (tgt := 17) dX2_isKind_10 (by decide) (fun h_10 => ?_) (fun h_10 => ?_)
    · have h_10 := b2i_0 h_10
      refine r_iconst (μ := mX2_isKind) (pc := 17) (v := 0) dX2_isKind_17 ic_0 ?_
      exact r_iret (μ := mX2_isKind) (pc := 18) dX2_isKind_18 rfl rfl (PI_i (by first | (rw [h_10, Bool.or_false]; simp [b2i, h_2]; done) | (rw [h_10]; simp [b2i]; done) | (simp [b2i, h_2]; done)))
    · have h_10 := b2i_1 h_10
      refine r_iconst (μ := mX2_isKind) (pc := 13) (v := 1) dX2_isKind_13 ic_1 ?_
      refine r_goto (μ := mX2_isKind) (pc := 14) (tgt := 18) dX2_isKind_14 (by decide) ?_
      exact r_iret (μ := mX2_isKind) (pc := 18) dX2_isKind_18 rfl rfl (PI_i (by first | (rw [h_10, Bool.or_false]; simp [b2i, h_2]; done) | (rw [h_10]; simp [b2i]; done) | (simp [b2i, h_2]; done)))

theorem k_X1_isKind {d : Nat} {sh : List Sh} {mi : MI} {mr : MR} {a c0 n0 : Nat} {q0 : vw_C} (h : sh[a]? = some (c0 + 4, n0)) (hq : cls[c0]? = some q0) {x : Int32} : CP (d + 1) mX1_isKind [.ref a, .int x] sh mi mr 0 0 (PI (b2i (decide (x = 5) || decide (x = 0))) sh mi mr) := by
  refine CP.of (L := [_, _]) (by decide) rfl rfl (Nat.le_of_ble_eq_true rfl) ?_
  refine r_iload_n (μ := mX1_isKind) (pc := 0) dX1_isKind_0 rfl rfl ?_
  refine r_iconst (μ := mX1_isKind) (pc := 1) (v := 5) dX1_isKind_1 ic_5 ?_
  refine r_icmp_eq (μ := mX1_isKind) (pc := 2) (tgt := 13) dX1_isKind_2 (by decide) (fun h_2 => ?_) (fun h_2 => ?_)
  · refine r_iconst (μ := mX1_isKind) (pc := 13) (v := 1) dX1_isKind_13 ic_1 ?_
    refine r_goto (μ := mX1_isKind) (pc := 14) (tgt := 18) dX1_isKind_14 (by decide) ?_
    exact r_iret (μ := mX1_isKind) (pc := 18) dX1_isKind_18 rfl rfl (PI_i (by first | (rw [h_10, Bool.or_false]; simp [b2i, h_2]; done) | (rw [h_10]; simp [b2i]; done) | (simp [b2i, h_2]; done)))
  · refine r_aload_n (μ := mX1_isKind) (pc := 5) dX1_isKind_5 rfl rfl rfl ?_
    refine r_iload_n (μ := mX1_isKind) (pc := 6) dX1_isKind_6 rfl rfl ?_
    refine uP1 (μ := mX1_isKind) (pc := 7) (μ2 := mX4_isKind) dX1_isKind_7 h hq (by decide) lkX1_7 smX4_X4_isKind suX1_X4 imX4_isKind mwX4_isKind (Nat.le_of_ble_eq_true rfl) (k_X4_isKind h hq) ?_
    refine r_if_eq (μ := mX1_isKind) (pc := 10) (tgt := 17) dX1_isKind_10 (by decide) (fun h_10 => ?_) (fun h_10 => ?_)
    · have h_10 := b2i_0 h_10
      refine r_iconst (μ := mX1_isKind) (pc := 17) (v := 0) dX1_isKind_17 ic_0 ?_
      exact r_iret (μ := mX1_isKind) (pc := 18) dX1_isKind_18 rfl rfl (PI_i (by first | (rw [h_10, Bool.or_false]; simp [b2i, h_2]; done) | (rw [h_10]; simp [b2i]; done) | (simp [b2i, h_2]; done)))
    · have h_10 := b2i_1 h_10
      refine r_iconst (μ := mX1_isKind) (pc := 13) (v := 1) dX1_isKind_13 ic_1 ?_
      refine r_goto (μ := mX1_isKind) (pc := 14) (tgt := 18) dX1_isKind_14 (by decide) ?_
      exact r_iret (μ := mX1_isKind) (pc := 18) dX1_isKind_18 rfl rfl (PI_i (by first | (rw [h_10, Bool.or_false]; simp [b2i, h_2]; done) | (rw [h_10]; simp [b2i]; done) | (simp [b2i, h_2]; done)))

theorem k_X0_isKind {d : Nat} {sh : List Sh} {mi : MI} {mr : MR} {a c0 n0 : Nat} {q0 : vw_C} (h : sh[a]? = some (c0 + 4, n0)) (hq : cls[c0]? = some q0) {x : Int32} : CP (d + 2) mX0_isKind [.ref a, .int x] sh mi mr 0 0 (PI (b2i (decide (x = 3) || (decide (x = 1) || decide (x = 0)))) sh mi mr) := by
  refine CP.of (L := [_, _]) (by decide) rfl rfl (Nat.le_of_ble_eq_true rfl) ?_
  refine r_iload_n (μ := mX0_isKind) (pc := 0) dX0_isKind_0 rfl rfl ?_
  refine r_iconst (μ := mX0_isKind) (pc := 1) (v := 3) dX0_isKind_1 ic_3 ?_
  refine r_icmp_eq (μ := mX0_isKind) (pc := 2) (tgt := 13) dX0_isKind_2 (by decide) (fun h_2 => ?_) (fun h_2 => ?_)
  · refine r_iconst (μ := mX0_isKind) (pc := 13) (v := 1) dX0_isKind_13 ic_1 ?_
    refine r_goto (μ := mX0_isKind) (pc := 14) (tgt := 18) dX0_isKind_14 (by decide) ?_
    exact r_iret (μ := mX0_isKind) (pc := 18) dX0_isKind_18 rfl rfl (PI_i (by first | (rw [h_10, Bool.or_false]; simp [b2i, h_2]; done) | (rw [h_10]; simp [b2i]; done) | (simp [b2i, h_2]; done)))
  · refine r_aload_n (μ := mX0_isKind) (pc := 5) dX0_isKind_5 rfl rfl rfl ?_
    refine r_iload_n (μ := mX0_isKind) (pc := 6) dX0_isKind_6 rfl rfl ?_
    refine uP1 (μ := mX0_isKind) (pc := 7) (μ2 := mX6_isKind) dX0_isKind_7 h hq (by decide) lkX0_7 smX6_X6_isKind suX0_X6 imX6_isKind mwX6_isKind (Nat.le_of_ble_eq_true rfl) (k_X6_isKind h hq) ?_
    refine r_if_eq (μ := mX0_isKind) (pc := 10) (tgt := 17) dX0_isKind_10 (by decide) (fun h_10 => ?_) (fun h_10 => ?_)
    · have h_10 := b2i_0 h_10
      refine r_iconst (μ := mX0_isKind) (pc := 17) (v := 0) dX0_isKind_17 ic_0 ?_
      exact r_iret (μ := mX0_isKind) (pc := 18) dX0_isKind_18 rfl rfl (PI_i (by first | (rw [h_10, Bool.or_false]; simp [b2i, h_2]; done) | (rw [h_10]; simp [b2i]; done) | (simp [b2i, h_2]; done)))
    · have h_10 := b2i_1 h_10
      refine r_iconst (μ := mX0_isKind) (pc := 13) (v := 1) dX0_isKind_13 ic_1 ?_
      refine r_goto (μ := mX0_isKind) (pc := 14) (tgt := 18) dX0_isKind_14 (by decide) ?_
      exact r_iret (μ := mX0_isKind) (pc := 18) dX0_isKind_18 rfl rfl (PI_i (by first | (rw [h_10, Bool.or_false]; simp [b2i, h_2]; done) | (rw [h_10]; simp [b2i]; done) | (simp [b2i, h_2]; done)))

theorem k_X3_isKind {d : Nat} {sh : List Sh} {mi : MI} {mr : MR} {a c0 n0 : Nat} {q0 : vw_C} (h : sh[a]? = some (c0 + 4, n0)) (hq : cls[c0]? = some q0) {x : Int32} : CP (d + 2) mX3_isKind [.ref a, .int x] sh mi mr 0 0 (PI (b2i (decide (x = 4) || (decide (x = 2) || decide (x = 0)))) sh mi mr) := by
  refine CP.of (L := [_, _]) (by decide) rfl rfl (Nat.le_of_ble_eq_true rfl) ?_
  refine r_iload_n (μ := mX3_isKind) (pc := 0) dX3_isKind_0 rfl rfl ?_
  refine r_iconst (μ := mX3_isKind) (pc := 1) (v := 4) dX3_isKind_1 ic_4 ?_
  refine r_icmp_eq (μ := mX3_isKind) (pc := 2) (tgt := 13) dX3_isKind_2 (by decide) (fun h_2 => ?_) (fun h_2 => ?_)
  · refine r_iconst (μ := mX3_isKind) (pc := 13) (v := 1) dX3_isKind_13 ic_1 ?_
    refine r_goto (μ := mX3_isKind) (pc := 14) (tgt := 18) dX3_isKind_14 (by decide) ?_
    exact r_iret (μ := mX3_isKind) (pc := 18) dX3_isKind_18 rfl rfl (PI_i (by first | (rw [h_10, Bool.or_false]; simp [b2i, h_2]; done) | (rw [h_10]; simp [b2i]; done) | (simp [b2i, h_2]; done)))
  · refine r_aload_n (μ := mX3_isKind) (pc := 5) dX3_isKind_5 rfl rfl rfl ?_
    refine r_iload_n (μ := mX3_isKind) (pc := 6) dX3_isKind_6 rfl rfl ?_
    refine uP1 (μ := mX3_isKind) (pc := 7) (μ2 := mX2_isKind) dX3_isKind_7 h hq (by decide) lkX3_7 smX2_X2_isKind suX3_X2 imX2_isKind mwX2_isKind (Nat.le_of_ble_eq_true rfl) (k_X2_isKind h hq) ?_
    refine r_if_eq (μ := mX3_isKind) (pc := 10) (tgt := 17) dX3_isKind_10 (by decide) (fun h_10 => ?_) (fun h_10 => ?_)
    · have h_10 := b2i_0 h_10
      refine r_iconst (μ := mX3_isKind) (pc := 17) (v := 0) dX3_isKind_17 ic_0 ?_
      exact r_iret (μ := mX3_isKind) (pc := 18) dX3_isKind_18 rfl rfl (PI_i (by first | (rw [h_10, Bool.or_false]; simp [b2i, h_2]; done) | (rw [h_10]; simp [b2i]; done) | (simp [b2i, h_2]; done)))
    · have h_10 := b2i_1 h_10
      refine r_iconst (μ := mX3_isKind) (pc := 13) (v := 1) dX3_isKind_13 ic_1 ?_
      refine r_goto (μ := mX3_isKind) (pc := 14) (tgt := 18) dX3_isKind_14 (by decide) ?_
      exact r_iret (μ := mX3_isKind) (pc := 18) dX3_isKind_18 rfl rfl (PI_i (by first | (rw [h_10, Bool.or_false]; simp [b2i, h_2]; done) | (rw [h_10]; simp [b2i]; done) | (simp [b2i, h_2]; done)))

theorem k_X4_letsMove {d : Nat} {sh : List Sh} {mi : MI} {mr : MR} {a c0 n0 : Nat} {q0 : vw_C} (h : sh[a]? = some (c0 + 4, n0)) (hq : cls[c0]? = some q0) {x y : Bool} : CP (d) mX4_letsMove [.ref a, .int (b2i x), .int (b2i y)] sh mi mr 0 0 (PI (b2i x) sh mi mr) := by
  refine CP.of (L := [_, _, _]) (by decide) rfl rfl (Nat.le_of_ble_eq_true rfl) ?_
  refine r_iload_n (μ := mX4_letsMove) (pc := 0) dX4_letsMove_0 rfl rfl ?_
  exact r_iret (μ := mX4_letsMove) (pc := 1) dX4_letsMove_1 rfl (nar_b2i _) (PI_i rfl)

theorem k_X6_letsMove {d : Nat} {sh : List Sh} {mi : MI} {mr : MR} {a c0 n0 : Nat} {q0 : vw_C} (h : sh[a]? = some (c0 + 4, n0)) (hq : cls[c0]? = some q0) {x y : Bool} : CP (d) mX6_letsMove [.ref a, .int (b2i x), .int (b2i y)] sh mi mr 0 0 (PI (1) sh mi mr) := by
  refine CP.of (L := [_, _, _]) (by decide) rfl rfl (Nat.le_of_ble_eq_true rfl) ?_
  refine r_iconst (μ := mX6_letsMove) (pc := 0) (v := 1) dX6_letsMove_0 ic_1 ?_
  exact r_iret (μ := mX6_letsMove) (pc := 1) dX6_letsMove_1 rfl rfl (PI_i rfl)

theorem k_X1_letsMove {d : Nat} {sh : List Sh} {mi : MI} {mr : MR} {a c0 n0 : Nat} {q0 : vw_C} (h : sh[a]? = some (c0 + 4, n0)) (hq : cls[c0]? = some q0) {x y : Bool} : CP (d) mX1_letsMove [.ref a, .int (b2i x), .int (b2i y)] sh mi mr 0 0 (PI (1) sh mi mr) := by
  refine CP.of (L := [_, _, _]) (by decide) rfl rfl (Nat.le_of_ble_eq_true rfl) ?_
  refine r_iconst (μ := mX1_letsMove) (pc := 0) (v := 1) dX1_letsMove_0 ic_1 ?_
  exact r_iret (μ := mX1_letsMove) (pc := 1) dX1_letsMove_1 rfl rfl (PI_i rfl)

theorem k_X2_letsMove {d : Nat} {sh : List Sh} {mi : MI} {mr : MR} {a c0 n0 : Nat} {q0 : vw_C} (h : sh[a]? = some (c0 + 4, n0)) (hq : cls[c0]? = some q0) {x y : Bool} : CP (d + 1) mX2_letsMove [.ref a, .int (b2i x), .int (b2i y)] sh mi mr 0 0 (PI (b2i (x && y)) sh mi mr) := by
  refine CP.of (L := [_, _, _]) (by decide) rfl rfl (Nat.le_of_ble_eq_true rfl) ?_
  refine r_aload_n (μ := mX2_letsMove) (pc := 0) dX2_letsMove_0 rfl rfl rfl ?_
  refine r_iload_n (μ := mX2_letsMove) (pc := 1) dX2_letsMove_1 rfl rfl ?_
  refine r_iload_n (μ := mX2_letsMove) (pc := 2) dX2_letsMove_2 rfl rfl ?_
  refine uP2 (μ := mX2_letsMove) (pc := 3) (μ2 := mX4_letsMove) dX2_letsMove_3 h hq (by decide) lkX2_18 smX4_X4_letsMove suX2_X4 imX4_letsMove mwX4_letsMove (Nat.le_of_ble_eq_true rfl) (k_X4_letsMove h hq) ?_
  refine r_if_eq (μ := mX2_letsMove) (pc := 6) (tgt := 17) dX2_letsMove_6 (by decide) (fun h_6 => ?_) (fun h_6 => ?_)
  · have h_6 := b2i_0 h_6
    refine r_iconst (μ := mX2_letsMove) (pc := 17) (v := 0) dX2_letsMove_17 ic_0 ?_
    exact r_iret (μ := mX2_letsMove) (pc := 18) dX2_letsMove_18 rfl rfl (PI_i (by first | (rw [h_6]; simp [b2i]; done) | (rw [h_6, b2i_0 h_10]; rfl) | (rw [h_6, b2i_1 h_10]; rfl)))
  · have h_6 := b2i_1 h_6
    refine r_iload_n (μ := mX2_letsMove) (pc := 9) dX2_letsMove_9 rfl rfl ?_
    refine r_if_eq (μ := mX2_letsMove) (pc := 10) (tgt := 17) dX2_letsMove_10 (by decide) (fun h_10 => ?_) (fun h_10 => ?_)
    · refine r_iconst (μ := mX2_letsMove) (pc := 17) (v := 0) dX2_letsMove_17 ic_0 ?_
      exact r_iret (μ := mX2_letsMove) (pc := 18) dX2_letsMove_18 rfl rfl (PI_i (by first | (rw [h_6]; simp [b2i]; done) | (rw [h_6, b2i_0 h_10]; rfl) | (rw [h_6, b2i_1 h_10]; rfl)))
    · refine r_iconst (μ := mX2_letsMove) (pc := 13) (v := 1) dX2_letsMove_13 ic_1 ?_
      refine r_goto (μ := mX2_letsMove) (pc := 14) (tgt := 18) dX2_letsMove_14 (by decide) ?_
      exact r_iret (μ := mX2_letsMove) (pc := 18) dX2_letsMove_18 rfl rfl (PI_i (by first | (rw [h_6]; simp [b2i]; done) | (rw [h_6, b2i_0 h_10]; rfl) | (rw [h_6, b2i_1 h_10]; rfl)))

theorem mx_r (x : Int32) (h : inB x 1 99 = true) : mxI 0 (x - 2) = rchK (nI 4) x := by
  obtain ⟨j, hj, rfl⟩ := inB_of (hi := 99) (by unfold inB at h ⊢; simp only [decide_eq_true_eq] at h ⊢; omega : inB x 0 ((99 : Nat) : Int) = true)
  exact (by decide +kernel : ∀ j, j ≤ 99 → mxI 0 (nI j - 2) = rchK (nI 4) (nI j)) j hj
def ltsB (k : Nat) (x y : Bool) : Bool := if k = 1 ∨ k = 3 ∨ k = 5 then true else if k = 2 ∨ k = 4 then x && y else x
theorem isOf_x {x : Int32} (h : inB x 0 5 = true) (P : Int32 → Prop) (hP : ∀ j, j ≤ 5 → P (nI j)) : P x := by
  obtain ⟨j, hj, rfl⟩ := inB_of (hi := 5) h
  exact hP j hj

theorem isOf0 {x : Int32} (h : inB x 0 5 = true) : decide (x = 0) = isOfB (nI 0) x := isOf_x h (fun x => decide (x = 0) = isOfB (nI 0) x) (by decide +kernel)
theorem isOf1 {x : Int32} (h : inB x 0 5 = true) : (decide (x = 1) || decide (x = 0)) = isOfB (nI 1) x := isOf_x h (fun x => (decide (x = 1) || decide (x = 0)) = isOfB (nI 1) x) (by decide +kernel)
theorem isOf2 {x : Int32} (h : inB x 0 5 = true) : (decide (x = 2) || decide (x = 0)) = isOfB (nI 2) x := isOf_x h (fun x => (decide (x = 2) || decide (x = 0)) = isOfB (nI 2) x) (by decide +kernel)
theorem isOf3 {x : Int32} (h : inB x 0 5 = true) : (decide (x = 3) || (decide (x = 1) || decide (x = 0))) = isOfB (nI 3) x := isOf_x h (fun x => (decide (x = 3) || (decide (x = 1) || decide (x = 0))) = isOfB (nI 3) x) (by decide +kernel)
theorem isOf4 {x : Int32} (h : inB x 0 5 = true) : (decide (x = 4) || (decide (x = 2) || decide (x = 0))) = isOfB (nI 4) x := isOf_x h (fun x => (decide (x = 4) || (decide (x = 2) || decide (x = 0))) = isOfB (nI 4) x) (by decide +kernel)
theorem isOf5 {x : Int32} (h : inB x 0 5 = true) : (decide (x = 5) || decide (x = 0)) = isOfB (nI 5) x := isOf_x h (fun x => (decide (x = 5) || decide (x = 0)) = isOfB (nI 5) x) (by decide +kernel)
theorem kv_reach {d : Nat} {μ : Mt} {pc : Nat} {L S : List Value} {sh : List Sh} {mi : MI} {mr : MR} {cb sb idx : Nat} {Q : QT} {k : Nat} {x : Int32} (hd : decode μ.2.1 pc = .ok (.invokevirtual idx, 3)) (hl2 : Cond.methodLink μ.1.cls idx yX4_reach ∈ lw_tbl) (hK : KB sh mr) (hk : k < 6) (hx : inB x 1 99 = true) (hS8 : (S.map c12).sum ≤ 8) (kk : WP (d + 3) μ (pc + 3) L (.int (rchK (nI k) x) :: S) sh mi mr cb sb Q) : WP (d + 3) μ pc L (.int x :: .ref (2 + k) :: S) sh mi mr cb sb Q := by
  match k, hk, kk with
  | 0, _, kk =>
    refine r_virtU (μ2 := mX4_reach) (as := [.int x]) (c0 := 4) (q0 := (RX4, TX4, 0)) hd rfl (hK.2.2 0 (by decide)) rfl (x := yX4_reach) rfl (by decide) hl2 smX4_X4_reach mwX4_reach.1 imX4_reach seX4_X4_reach_X4_reach imX4_reach (k_X4_reach (hK.2.2 0 (by decide)) rfl) mwX4_reach hS8 (by rintro v sh2 mi2 mr2 ⟨rfl, rfl, rfl, rfl⟩; exact kk)
  | 1, _, kk =>
    refine r_virtU (μ2 := mX6_reach) (as := [.int x]) (c0 := 6) (q0 := (RX6, TX6, 0)) hd rfl (hK.2.2 1 (by decide)) rfl (x := yX4_reach) rfl (by decide) hl2 smX4_X4_reach mwX4_reach.1 imX4_reach seX6_X4_reach_X6_reach imX6_reach (k_X6_reach (hK.2.2 1 (by decide)) rfl) mwX6_reach hS8 (by rintro v sh2 mi2 mr2 ⟨rfl, rfl, rfl, rfl⟩; exact kk)
  | 2, _, kk =>
    refine r_virtU (μ2 := mX4_reach) (as := [.int x]) (c0 := 2) (q0 := (RX2, TX2, 0)) hd rfl (hK.2.2 2 (by decide)) rfl (x := yX4_reach) rfl (by decide) hl2 smX4_X4_reach mwX4_reach.1 imX4_reach seX2_X4_reach_X4_reach imX4_reach (k_X4_reach (hK.2.2 2 (by decide)) rfl) mwX4_reach hS8 (by rintro v sh2 mi2 mr2 ⟨rfl, rfl, rfl, rfl⟩; exact kk)
  | 3, _, kk =>
    refine r_virtU (μ2 := mX0_reach) (as := [.int x]) (c0 := 0) (q0 := (RX0, TX0, 0)) hd rfl (hK.2.2 3 (by decide)) rfl (x := yX4_reach) rfl (by decide) hl2 smX4_X4_reach mwX4_reach.1 imX4_reach seX0_X4_reach_X0_reach imX0_reach (k_X0_reach (hK.2.2 3 (by decide)) rfl) mwX0_reach hS8 (by rintro v sh2 mi2 mr2 ⟨rfl, rfl, rfl, rfl⟩; exact kk)
  | 4, _, kk =>
    refine r_virtU (μ2 := mX3_reach) (as := [.int x]) (c0 := 3) (q0 := (RX3, TX3, 0)) hd rfl (hK.2.2 4 (by decide)) rfl (x := yX4_reach) rfl (by decide) hl2 smX4_X4_reach mwX4_reach.1 imX4_reach seX3_X4_reach_X3_reach imX3_reach (k_X3_reach (hK.2.2 4 (by decide)) rfl) mwX3_reach hS8 (by rintro v sh2 mi2 mr2 ⟨rfl, rfl, rfl, rfl⟩; exact (by rw [← mx_r x hx] at kk; exact kk))
  | 5, _, kk =>
    refine r_virtU (μ2 := mX1_reach) (as := [.int x]) (c0 := 1) (q0 := (RX1, TX1, 0)) hd rfl (hK.2.2 5 (by decide)) rfl (x := yX4_reach) rfl (by decide) hl2 smX4_X4_reach mwX4_reach.1 imX4_reach seX1_X4_reach_X1_reach imX1_reach (k_X1_reach (hK.2.2 5 (by decide)) rfl) mwX1_reach hS8 (by rintro v sh2 mi2 mr2 ⟨rfl, rfl, rfl, rfl⟩; exact kk)

theorem kv_minutes {d : Nat} {μ : Mt} {pc : Nat} {L S : List Value} {sh : List Sh} {mi : MI} {mr : MR} {cb sb idx : Nat} {Q : QT} {k : Nat} {x : Int32} (hd : decode μ.2.1 pc = .ok (.invokevirtual idx, 3)) (hl2 : Cond.methodLink μ.1.cls idx yX4_minutes ∈ lw_tbl) (hK : KB sh mr) (hk : k < 6) (hS8 : (S.map c12).sum ≤ 8) (kk : WP (d + 3) μ (pc + 3) L (.int (minK (nI k) (x / 5 + 1)) :: S) sh mi mr cb sb Q) : WP (d + 3) μ pc L (.int x :: .ref (2 + k) :: S) sh mi mr cb sb Q := by
  match k, hk, kk with
  | 0, _, kk =>
    refine r_virtU (μ2 := mX4_minutes) (as := [.int x]) (c0 := 4) (q0 := (RX4, TX4, 0)) hd rfl (hK.2.2 0 (by decide)) rfl (x := yX4_minutes) rfl (by decide) hl2 smX4_X4_minutes mwX4_minutes.1 imX4_minutes seX4_X4_minutes_X4_minutes imX4_minutes (k_X4_minutes (hK.2.2 0 (by decide)) rfl) mwX4_minutes hS8 (by rintro v sh2 mi2 mr2 ⟨rfl, rfl, rfl, rfl⟩; exact kk)
  | 1, _, kk =>
    refine r_virtU (μ2 := mX6_minutes) (as := [.int x]) (c0 := 6) (q0 := (RX6, TX6, 0)) hd rfl (hK.2.2 1 (by decide)) rfl (x := yX4_minutes) rfl (by decide) hl2 smX4_X4_minutes mwX4_minutes.1 imX4_minutes seX6_X4_minutes_X6_minutes imX6_minutes (k_X6_minutes (hK.2.2 1 (by decide)) rfl) mwX6_minutes hS8 (by rintro v sh2 mi2 mr2 ⟨rfl, rfl, rfl, rfl⟩; exact kk)
  | 2, _, kk =>
    refine r_virtU (μ2 := mX2_minutes) (as := [.int x]) (c0 := 2) (q0 := (RX2, TX2, 0)) hd rfl (hK.2.2 2 (by decide)) rfl (x := yX4_minutes) rfl (by decide) hl2 smX4_X4_minutes mwX4_minutes.1 imX4_minutes seX2_X4_minutes_X2_minutes imX2_minutes (k_X2_minutes (hK.2.2 2 (by decide)) rfl) mwX2_minutes hS8 (by rintro v sh2 mi2 mr2 ⟨rfl, rfl, rfl, rfl⟩; exact kk)
  | 3, _, kk =>
    refine r_virtU (μ2 := mX0_minutes) (as := [.int x]) (c0 := 0) (q0 := (RX0, TX0, 0)) hd rfl (hK.2.2 3 (by decide)) rfl (x := yX4_minutes) rfl (by decide) hl2 smX4_X4_minutes mwX4_minutes.1 imX4_minutes seX0_X4_minutes_X0_minutes imX0_minutes (k_X0_minutes (hK.2.2 3 (by decide)) rfl) mwX0_minutes hS8 (by rintro v sh2 mi2 mr2 ⟨rfl, rfl, rfl, rfl⟩; exact kk)
  | 4, _, kk =>
    refine r_virtU (μ2 := mX2_minutes) (as := [.int x]) (c0 := 3) (q0 := (RX3, TX3, 0)) hd rfl (hK.2.2 4 (by decide)) rfl (x := yX4_minutes) rfl (by decide) hl2 smX4_X4_minutes mwX4_minutes.1 imX4_minutes seX3_X4_minutes_X2_minutes imX2_minutes (k_X2_minutes (hK.2.2 4 (by decide)) rfl) mwX2_minutes hS8 (by rintro v sh2 mi2 mr2 ⟨rfl, rfl, rfl, rfl⟩; exact kk)
  | 5, _, kk =>
    refine r_virtU (μ2 := mX4_minutes) (as := [.int x]) (c0 := 1) (q0 := (RX1, TX1, 0)) hd rfl (hK.2.2 5 (by decide)) rfl (x := yX4_minutes) rfl (by decide) hl2 smX4_X4_minutes mwX4_minutes.1 imX4_minutes seX1_X4_minutes_X4_minutes imX4_minutes (k_X4_minutes (hK.2.2 5 (by decide)) rfl) mwX4_minutes hS8 (by rintro v sh2 mi2 mr2 ⟨rfl, rfl, rfl, rfl⟩; exact kk)

theorem kv_worth {d : Nat} {μ : Mt} {pc : Nat} {L S : List Value} {sh : List Sh} {mi : MI} {mr : MR} {cb sb idx : Nat} {Q : QT} {k : Nat} {x : Int32} (hd : decode μ.2.1 pc = .ok (.invokevirtual idx, 3)) (hl2 : Cond.methodLink μ.1.cls idx yX4_worth ∈ lw_tbl) (hK : KB sh mr) (hk : k < 6) (hS8 : (S.map c12).sum ≤ 8) (kk : WP (d + 3) μ (pc + 3) L (.int (wthK (nI k) x) :: S) sh mi mr cb sb Q) : WP (d + 3) μ pc L (.int x :: .ref (2 + k) :: S) sh mi mr cb sb Q := by
  match k, hk, kk with
  | 0, _, kk =>
    refine r_virtU (μ2 := mX4_worth) (as := [.int x]) (c0 := 4) (q0 := (RX4, TX4, 0)) hd rfl (hK.2.2 0 (by decide)) rfl (x := yX4_worth) rfl (by decide) hl2 smX4_X4_worth mwX4_worth.1 imX4_worth seX4_X4_worth_X4_worth imX4_worth (k_X4_worth (hK.2.2 0 (by decide)) rfl) mwX4_worth hS8 (by rintro v sh2 mi2 mr2 ⟨rfl, rfl, rfl, rfl⟩; exact kk)
  | 1, _, kk =>
    refine r_virtU (μ2 := mX6_worth) (as := [.int x]) (c0 := 6) (q0 := (RX6, TX6, 0)) hd rfl (hK.2.2 1 (by decide)) rfl (x := yX4_worth) rfl (by decide) hl2 smX4_X4_worth mwX4_worth.1 imX4_worth seX6_X4_worth_X6_worth imX6_worth (k_X6_worth (hK.2.2 1 (by decide)) rfl) mwX6_worth hS8 (by rintro v sh2 mi2 mr2 ⟨rfl, rfl, rfl, rfl⟩; exact kk)
  | 2, _, kk =>
    refine r_virtU (μ2 := mX2_worth) (as := [.int x]) (c0 := 2) (q0 := (RX2, TX2, 0)) hd rfl (hK.2.2 2 (by decide)) rfl (x := yX4_worth) rfl (by decide) hl2 smX4_X4_worth mwX4_worth.1 imX4_worth seX2_X4_worth_X2_worth imX2_worth (k_X2_worth (hK.2.2 2 (by decide)) rfl) mwX2_worth hS8 (by rintro v sh2 mi2 mr2 ⟨rfl, rfl, rfl, rfl⟩; exact kk)
  | 3, _, kk =>
    refine r_virtU (μ2 := mX0_worth) (as := [.int x]) (c0 := 0) (q0 := (RX0, TX0, 0)) hd rfl (hK.2.2 3 (by decide)) rfl (x := yX4_worth) rfl (by decide) hl2 smX4_X4_worth mwX4_worth.1 imX4_worth seX0_X4_worth_X0_worth imX0_worth (k_X0_worth (hK.2.2 3 (by decide)) rfl) mwX0_worth hS8 (by rintro v sh2 mi2 mr2 ⟨rfl, rfl, rfl, rfl⟩; exact kk)
  | 4, _, kk =>
    refine r_virtU (μ2 := mX3_worth) (as := [.int x]) (c0 := 3) (q0 := (RX3, TX3, 0)) hd rfl (hK.2.2 4 (by decide)) rfl (x := yX4_worth) rfl (by decide) hl2 smX4_X4_worth mwX4_worth.1 imX4_worth seX3_X4_worth_X3_worth imX3_worth (k_X3_worth (hK.2.2 4 (by decide)) rfl) mwX3_worth hS8 (by rintro v sh2 mi2 mr2 ⟨rfl, rfl, rfl, rfl⟩; exact (by rw [show wthK (nI 4) x = x + 9 + 20 from (Int32.add_assoc x 9 20).symm] at kk; exact kk))
  | 5, _, kk =>
    refine r_virtU (μ2 := mX1_worth) (as := [.int x]) (c0 := 1) (q0 := (RX1, TX1, 0)) hd rfl (hK.2.2 5 (by decide)) rfl (x := yX4_worth) rfl (by decide) hl2 smX4_X4_worth mwX4_worth.1 imX4_worth seX1_X4_worth_X1_worth imX1_worth (k_X1_worth (hK.2.2 5 (by decide)) rfl) mwX1_worth hS8 (by rintro v sh2 mi2 mr2 ⟨rfl, rfl, rfl, rfl⟩; exact kk)

theorem kv_isKind {d : Nat} {μ : Mt} {pc : Nat} {L S : List Value} {sh : List Sh} {mi : MI} {mr : MR} {cb sb idx : Nat} {Q : QT} {k : Nat} {x : Int32} (hd : decode μ.2.1 pc = .ok (.invokevirtual idx, 3)) (hl2 : Cond.methodLink μ.1.cls idx yX4_isKind ∈ lw_tbl) (hK : KB sh mr) (hk : k < 6) (hx : inB x 0 5 = true) (hS8 : (S.map c12).sum ≤ 8) (kk : WP (d + 3) μ (pc + 3) L (.int (b2i (isOfB (nI k) x)) :: S) sh mi mr cb sb Q) : WP (d + 3) μ pc L (.int x :: .ref (2 + k) :: S) sh mi mr cb sb Q := by
  match k, hk, kk with
  | 0, _, kk =>
    refine r_virtU (μ2 := mX4_isKind) (as := [.int x]) (c0 := 4) (q0 := (RX4, TX4, 0)) hd rfl (hK.2.2 0 (by decide)) rfl (x := yX4_isKind) rfl (by decide) hl2 smX4_X4_isKind mwX4_isKind.1 imX4_isKind seX4_X4_isKind_X4_isKind imX4_isKind (k_X4_isKind (hK.2.2 0 (by decide)) rfl) mwX4_isKind hS8 (by rintro v sh2 mi2 mr2 ⟨rfl, rfl, rfl, rfl⟩; exact (by rw [← isOf0 hx] at kk; exact kk))
  | 1, _, kk =>
    refine r_virtU (μ2 := mX6_isKind) (as := [.int x]) (c0 := 6) (q0 := (RX6, TX6, 0)) hd rfl (hK.2.2 1 (by decide)) rfl (x := yX4_isKind) rfl (by decide) hl2 smX4_X4_isKind mwX4_isKind.1 imX4_isKind seX6_X4_isKind_X6_isKind imX6_isKind (k_X6_isKind (hK.2.2 1 (by decide)) rfl) mwX6_isKind hS8 (by rintro v sh2 mi2 mr2 ⟨rfl, rfl, rfl, rfl⟩; exact (by rw [← isOf1 hx] at kk; exact kk))
  | 2, _, kk =>
    refine r_virtU (μ2 := mX2_isKind) (as := [.int x]) (c0 := 2) (q0 := (RX2, TX2, 0)) hd rfl (hK.2.2 2 (by decide)) rfl (x := yX4_isKind) rfl (by decide) hl2 smX4_X4_isKind mwX4_isKind.1 imX4_isKind seX2_X4_isKind_X2_isKind imX2_isKind (k_X2_isKind (hK.2.2 2 (by decide)) rfl) mwX2_isKind hS8 (by rintro v sh2 mi2 mr2 ⟨rfl, rfl, rfl, rfl⟩; exact (by rw [← isOf2 hx] at kk; exact kk))
  | 3, _, kk =>
    refine r_virtU (μ2 := mX0_isKind) (as := [.int x]) (c0 := 0) (q0 := (RX0, TX0, 0)) hd rfl (hK.2.2 3 (by decide)) rfl (x := yX4_isKind) rfl (by decide) hl2 smX4_X4_isKind mwX4_isKind.1 imX4_isKind seX0_X4_isKind_X0_isKind imX0_isKind (k_X0_isKind (hK.2.2 3 (by decide)) rfl) mwX0_isKind hS8 (by rintro v sh2 mi2 mr2 ⟨rfl, rfl, rfl, rfl⟩; exact (by rw [← isOf3 hx] at kk; exact kk))
  | 4, _, kk =>
    refine r_virtU (μ2 := mX3_isKind) (as := [.int x]) (c0 := 3) (q0 := (RX3, TX3, 0)) hd rfl (hK.2.2 4 (by decide)) rfl (x := yX4_isKind) rfl (by decide) hl2 smX4_X4_isKind mwX4_isKind.1 imX4_isKind seX3_X4_isKind_X3_isKind imX3_isKind (k_X3_isKind (hK.2.2 4 (by decide)) rfl) mwX3_isKind hS8 (by rintro v sh2 mi2 mr2 ⟨rfl, rfl, rfl, rfl⟩; exact (by rw [← isOf4 hx] at kk; exact kk))
  | 5, _, kk =>
    refine r_virtU (μ2 := mX1_isKind) (as := [.int x]) (c0 := 1) (q0 := (RX1, TX1, 0)) hd rfl (hK.2.2 5 (by decide)) rfl (x := yX4_isKind) rfl (by decide) hl2 smX4_X4_isKind mwX4_isKind.1 imX4_isKind seX1_X4_isKind_X1_isKind imX1_isKind (k_X1_isKind (hK.2.2 5 (by decide)) rfl) mwX1_isKind hS8 (by rintro v sh2 mi2 mr2 ⟨rfl, rfl, rfl, rfl⟩; exact (by rw [← isOf5 hx] at kk; exact kk))

theorem kv_letsMove {d : Nat} {μ : Mt} {pc : Nat} {L S : List Value} {sh : List Sh} {mi : MI} {mr : MR} {cb sb idx : Nat} {Q : QT} {k : Nat} {x y : Bool} (hd : decode μ.2.1 pc = .ok (.invokevirtual idx, 3)) (hl2 : Cond.methodLink μ.1.cls idx yX4_letsMove ∈ lw_tbl) (hK : KB sh mr) (hk : k < 6) (hS8 : (S.map c12).sum ≤ 8) (kk : WP (d + 3) μ (pc + 3) L (.int (b2i (ltsB k x y)) :: S) sh mi mr cb sb Q) : WP (d + 3) μ pc L (.int (b2i y) :: .int (b2i x) :: .ref (2 + k) :: S) sh mi mr cb sb Q := by
  match k, hk, kk with
  | 0, _, kk =>
    refine r_virtU (μ2 := mX4_letsMove) (as := [.int (b2i x), .int (b2i y)]) (c0 := 4) (q0 := (RX4, TX4, 0)) hd rfl (hK.2.2 0 (by decide)) rfl (x := yX4_letsMove) rfl (by decide) hl2 smX4_X4_letsMove mwX4_letsMove.1 imX4_letsMove seX4_X4_letsMove_X4_letsMove imX4_letsMove (k_X4_letsMove (hK.2.2 0 (by decide)) rfl) mwX4_letsMove hS8 (by rintro v sh2 mi2 mr2 ⟨rfl, rfl, rfl, rfl⟩; exact kk)
  | 1, _, kk =>
    refine r_virtU (μ2 := mX6_letsMove) (as := [.int (b2i x), .int (b2i y)]) (c0 := 6) (q0 := (RX6, TX6, 0)) hd rfl (hK.2.2 1 (by decide)) rfl (x := yX4_letsMove) rfl (by decide) hl2 smX4_X4_letsMove mwX4_letsMove.1 imX4_letsMove seX6_X4_letsMove_X6_letsMove imX6_letsMove (k_X6_letsMove (hK.2.2 1 (by decide)) rfl) mwX6_letsMove hS8 (by rintro v sh2 mi2 mr2 ⟨rfl, rfl, rfl, rfl⟩; exact kk)
  | 2, _, kk =>
    refine r_virtU (μ2 := mX2_letsMove) (as := [.int (b2i x), .int (b2i y)]) (c0 := 2) (q0 := (RX2, TX2, 0)) hd rfl (hK.2.2 2 (by decide)) rfl (x := yX4_letsMove) rfl (by decide) hl2 smX4_X4_letsMove mwX4_letsMove.1 imX4_letsMove seX2_X4_letsMove_X2_letsMove imX2_letsMove (k_X2_letsMove (hK.2.2 2 (by decide)) rfl) mwX2_letsMove hS8 (by rintro v sh2 mi2 mr2 ⟨rfl, rfl, rfl, rfl⟩; exact kk)
  | 3, _, kk =>
    refine r_virtU (μ2 := mX6_letsMove) (as := [.int (b2i x), .int (b2i y)]) (c0 := 0) (q0 := (RX0, TX0, 0)) hd rfl (hK.2.2 3 (by decide)) rfl (x := yX4_letsMove) rfl (by decide) hl2 smX4_X4_letsMove mwX4_letsMove.1 imX4_letsMove seX0_X4_letsMove_X6_letsMove imX6_letsMove (k_X6_letsMove (hK.2.2 3 (by decide)) rfl) mwX6_letsMove hS8 (by rintro v sh2 mi2 mr2 ⟨rfl, rfl, rfl, rfl⟩; exact kk)
  | 4, _, kk =>
    refine r_virtU (μ2 := mX2_letsMove) (as := [.int (b2i x), .int (b2i y)]) (c0 := 3) (q0 := (RX3, TX3, 0)) hd rfl (hK.2.2 4 (by decide)) rfl (x := yX4_letsMove) rfl (by decide) hl2 smX4_X4_letsMove mwX4_letsMove.1 imX4_letsMove seX3_X4_letsMove_X2_letsMove imX2_letsMove (k_X2_letsMove (hK.2.2 4 (by decide)) rfl) mwX2_letsMove hS8 (by rintro v sh2 mi2 mr2 ⟨rfl, rfl, rfl, rfl⟩; exact kk)
  | 5, _, kk =>
    refine r_virtU (μ2 := mX1_letsMove) (as := [.int (b2i x), .int (b2i y)]) (c0 := 1) (q0 := (RX1, TX1, 0)) hd rfl (hK.2.2 5 (by decide)) rfl (x := yX4_letsMove) rfl (by decide) hl2 smX4_X4_letsMove mwX4_letsMove.1 imX4_letsMove seX1_X4_letsMove_X1_letsMove imX1_letsMove (k_X1_letsMove (hK.2.2 5 (by decide)) rfl) mwX1_letsMove hS8 (by rintro v sh2 mi2 mr2 ⟨rfl, rfl, rfl, rfl⟩; exact kk)

