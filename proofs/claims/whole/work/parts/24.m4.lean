theorem c_joined {d : Nat} {sh : List Sh} {mi : MI} {mr : MR} {c x y : Int32} (hc : sgOK c) : CP d mX12_joined [.int c, .int x, .int y] sh mi mr 0 0 (PI (jn c x y) sh mi mr) := by
  refine CP.of (L := [_, _, _]) (by decide) rfl rfl (Nat.le_of_ble_eq_true rfl) ?_
  refine r_iload_n (μ := mX12_joined) (pc := 0) dX12_joined_0 rfl rfl ?_
  rcases hc with rfl | rfl | rfl | rfl | rfl | rfl | rfl | rfl | rfl
  · refine r_tabIn (μ := mX12_joined) (pc := 1) (tgt := 116) dX12_joined_1 (by decide) (by decide) rfl (by decide) ?_
    refine r_iload_n (μ := mX12_joined) (pc := 116) dX12_joined_116 rfl rfl ?_
    refine r_iload_n (μ := mX12_joined) (pc := 117) dX12_joined_117 rfl rfl ?_
    refine r_iadd (μ := mX12_joined) (pc := 118) dX12_joined_118 ?_
    exact r_iret (μ := mX12_joined) (pc := 119) dX12_joined_119 rfl rfl (PI_i (by simp [jn, *]))
  · refine r_tabIn (μ := mX12_joined) (pc := 1) (tgt := 120) dX12_joined_1 (by decide) (by decide) rfl (by decide) ?_
    refine r_iload_n (μ := mX12_joined) (pc := 120) dX12_joined_120 rfl rfl ?_
    refine r_iload_n (μ := mX12_joined) (pc := 121) dX12_joined_121 rfl rfl ?_
    refine r_isub (μ := mX12_joined) (pc := 122) dX12_joined_122 ?_
    exact r_iret (μ := mX12_joined) (pc := 123) dX12_joined_123 rfl rfl (PI_i (by simp [jn, *]))
  · refine r_tabIn (μ := mX12_joined) (pc := 1) (tgt := 124) dX12_joined_1 (by decide) (by decide) rfl (by decide) ?_
    refine r_iload_n (μ := mX12_joined) (pc := 124) dX12_joined_124 rfl rfl ?_
    refine r_iload_n (μ := mX12_joined) (pc := 125) dX12_joined_125 rfl rfl ?_
    refine r_imul (μ := mX12_joined) (pc := 126) dX12_joined_126 ?_
    exact r_iret (μ := mX12_joined) (pc := 127) dX12_joined_127 rfl rfl (PI_i (by simp [jn, *]))
  · refine r_tabIn (μ := mX12_joined) (pc := 1) (tgt := 128) dX12_joined_1 (by decide) (by decide) rfl (by decide) ?_
    refine r_iload_n (μ := mX12_joined) (pc := 128) dX12_joined_128 rfl rfl ?_
    refine r_if_ne (μ := mX12_joined) (pc := 129) (tgt := 136) dX12_joined_129 (by decide) (fun h_129 => ?_) (fun h_129 => ?_)
    · refine r_iload_n (μ := mX12_joined) (pc := 136) dX12_joined_136 rfl rfl ?_
      refine r_iconst (μ := mX12_joined) (pc := 137) (v := -1) dX12_joined_137 ic_m1 ?_
      refine r_icmp_ne (μ := mX12_joined) (pc := 138) (tgt := 146) dX12_joined_138 (by decide) (fun h_138 => ?_) (fun h_138 => ?_)
      · refine r_iload_n (μ := mX12_joined) (pc := 146) dX12_joined_146 rfl rfl ?_
        refine r_iload_n (μ := mX12_joined) (pc := 147) dX12_joined_147 rfl rfl ?_
        refine r_idiv (μ := mX12_joined) (pc := 148) dX12_joined_148 h_129 ?_
        exact r_iret (μ := mX12_joined) (pc := 149) dX12_joined_149 rfl rfl (PI_i (by simp [jn, *]))
      · refine r_iload_n (μ := mX12_joined) (pc := 141) dX12_joined_141 rfl rfl ?_
        refine r_ineg (μ := mX12_joined) (pc := 142) dX12_joined_142 ?_
        refine r_goto (μ := mX12_joined) (pc := 143) (tgt := 149) dX12_joined_143 (by decide) ?_
        exact r_iret (μ := mX12_joined) (pc := 149) dX12_joined_149 rfl rfl (PI_i (by simp [jn, *]))
    · refine r_iconst (μ := mX12_joined) (pc := 132) (v := 0) dX12_joined_132 ic_0 ?_
      refine r_goto (μ := mX12_joined) (pc := 133) (tgt := 149) dX12_joined_133 (by decide) ?_
      exact r_iret (μ := mX12_joined) (pc := 149) dX12_joined_149 rfl rfl (PI_i (by simp [jn, *]))
  · refine r_tabIn (μ := mX12_joined) (pc := 1) (tgt := 150) dX12_joined_1 (by decide) (by decide) rfl (by decide) ?_
    refine r_iload_n (μ := mX12_joined) (pc := 150) dX12_joined_150 rfl rfl ?_
    refine r_iload_n (μ := mX12_joined) (pc := 151) dX12_joined_151 rfl rfl ?_
    refine r_icmp_ge (μ := mX12_joined) (pc := 152) (tgt := 159) dX12_joined_152 (by decide) (fun h_152 => ?_) (fun h_152 => ?_)
    · refine r_iconst (μ := mX12_joined) (pc := 159) (v := 0) dX12_joined_159 ic_0 ?_
      exact r_iret (μ := mX12_joined) (pc := 160) dX12_joined_160 rfl rfl (PI_i (by simp [jn, *]))
    · refine r_iconst (μ := mX12_joined) (pc := 155) (v := 1) dX12_joined_155 ic_1 ?_
      refine r_goto (μ := mX12_joined) (pc := 156) (tgt := 160) dX12_joined_156 (by decide) ?_
      exact r_iret (μ := mX12_joined) (pc := 160) dX12_joined_160 rfl rfl (PI_i (by simp [jn, *]))
  · refine r_tabIn (μ := mX12_joined) (pc := 1) (tgt := 172) dX12_joined_1 (by decide) (by decide) rfl (by decide) ?_
    refine r_iload_n (μ := mX12_joined) (pc := 172) dX12_joined_172 rfl rfl ?_
    refine r_iload_n (μ := mX12_joined) (pc := 173) dX12_joined_173 rfl rfl ?_
    refine r_icmp_ne (μ := mX12_joined) (pc := 174) (tgt := 181) dX12_joined_174 (by decide) (fun h_174 => ?_) (fun h_174 => ?_)
    · refine r_iconst (μ := mX12_joined) (pc := 181) (v := 0) dX12_joined_181 ic_0 ?_
      exact r_iret (μ := mX12_joined) (pc := 182) dX12_joined_182 rfl rfl (PI_i (by simp [jn, *]))
    · refine r_iconst (μ := mX12_joined) (pc := 177) (v := 1) dX12_joined_177 ic_1 ?_
      refine r_goto (μ := mX12_joined) (pc := 178) (tgt := 182) dX12_joined_178 (by decide) ?_
      exact r_iret (μ := mX12_joined) (pc := 182) dX12_joined_182 rfl rfl (PI_i (by simp [jn, *]))
  · refine r_tabIn (μ := mX12_joined) (pc := 1) (tgt := 161) dX12_joined_1 (by decide) (by decide) rfl (by decide) ?_
    refine r_iload_n (μ := mX12_joined) (pc := 161) dX12_joined_161 rfl rfl ?_
    refine r_iload_n (μ := mX12_joined) (pc := 162) dX12_joined_162 rfl rfl ?_
    refine r_icmp_le (μ := mX12_joined) (pc := 163) (tgt := 170) dX12_joined_163 (by decide) (fun h_163 => ?_) (fun h_163 => ?_)
    · refine r_iconst (μ := mX12_joined) (pc := 170) (v := 0) dX12_joined_170 ic_0 ?_
      exact r_iret (μ := mX12_joined) (pc := 171) dX12_joined_171 rfl rfl (PI_i (by simp [jn, *]))
    · refine r_iconst (μ := mX12_joined) (pc := 166) (v := 1) dX12_joined_166 ic_1 ?_
      refine r_goto (μ := mX12_joined) (pc := 167) (tgt := 171) dX12_joined_167 (by decide) ?_
      exact r_iret (μ := mX12_joined) (pc := 171) dX12_joined_171 rfl rfl (PI_i (by simp [jn, *]))
  · refine r_tabIn (μ := mX12_joined) (pc := 1) (tgt := 183) dX12_joined_1 (by decide) (by decide) rfl (by decide) ?_
    refine r_iload_n (μ := mX12_joined) (pc := 183) dX12_joined_183 rfl rfl ?_
    refine r_if_eq (μ := mX12_joined) (pc := 184) (tgt := 195) dX12_joined_184 (by decide) (fun h_184 => ?_) (fun h_184 => ?_)
    · refine r_iconst (μ := mX12_joined) (pc := 195) (v := 0) dX12_joined_195 ic_0 ?_
      exact r_iret (μ := mX12_joined) (pc := 196) dX12_joined_196 rfl rfl (PI_i (by simp [jn, *]))
    · refine r_iload_n (μ := mX12_joined) (pc := 187) dX12_joined_187 rfl rfl ?_
      refine r_if_eq (μ := mX12_joined) (pc := 188) (tgt := 195) dX12_joined_188 (by decide) (fun h_188 => ?_) (fun h_188 => ?_)
      · refine r_iconst (μ := mX12_joined) (pc := 195) (v := 0) dX12_joined_195 ic_0 ?_
        exact r_iret (μ := mX12_joined) (pc := 196) dX12_joined_196 rfl rfl (PI_i (by simp [jn, *]))
      · refine r_iconst (μ := mX12_joined) (pc := 191) (v := 1) dX12_joined_191 ic_1 ?_
        refine r_goto (μ := mX12_joined) (pc := 192) (tgt := 196) dX12_joined_192 (by decide) ?_
        exact r_iret (μ := mX12_joined) (pc := 196) dX12_joined_196 rfl rfl (PI_i (by simp [jn, *]))
  · refine r_tabOut (μ := mX12_joined) (pc := 1) (tgt := 197) dX12_joined_1 (by decide) (by decide) ?_
    refine r_iload_n (μ := mX12_joined) (pc := 197) dX12_joined_197 rfl rfl ?_
    refine r_if_ne (μ := mX12_joined) (pc := 198) (tgt := 205) dX12_joined_198 (by decide) (fun h_198 => ?_) (fun h_198 => ?_)
    · refine r_iconst (μ := mX12_joined) (pc := 205) (v := 1) dX12_joined_205 ic_1 ?_
      refine r_goto (μ := mX12_joined) (pc := 206) (tgt := 210) dX12_joined_206 (by decide) ?_
      exact r_iret (μ := mX12_joined) (pc := 210) dX12_joined_210 rfl rfl (PI_i (by simp [jn, *]))
    · refine r_iload_n (μ := mX12_joined) (pc := 201) dX12_joined_201 rfl rfl ?_
      refine r_if_eq (μ := mX12_joined) (pc := 202) (tgt := 209) dX12_joined_202 (by decide) (fun h_202 => ?_) (fun h_202 => ?_)
      · refine r_iconst (μ := mX12_joined) (pc := 209) (v := 0) dX12_joined_209 ic_0 ?_
        exact r_iret (μ := mX12_joined) (pc := 210) dX12_joined_210 rfl rfl (PI_i (by simp [jn, *]))
      · refine r_iconst (μ := mX12_joined) (pc := 205) (v := 1) dX12_joined_205 ic_1 ?_
        refine r_goto (μ := mX12_joined) (pc := 206) (tgt := 210) dX12_joined_206 (by decide) ?_
        exact r_iret (μ := mX12_joined) (pc := 210) dX12_joined_210 rfl rfl (PI_i (by simp [jn, *]))

theorem lp_counts {d : Nat} {mi : MI} {mr : MR} {Q : QT} (hM : MB mr) {key : Int32} {q : Nat} (hqq : mi 1 3 = nI q) (hq14 : q ≤ 14) (hq : Q (some (.int (lstT (mi 1) q key))) shM mi mr) : ∀ (k : Nat) (i : Nat), i + k = q → WP (d + 1) mX12_counts 4 [.ref 0, .int key, .int (lstT (mi 1) i key), .int (nI i)] [] shM mi mr 0 0 Q := by
  intro k
  induction k with
  | zero =>
    intro i hk
    refine r_iload_n (μ := mX12_counts) (pc := 4) dX12_counts_4 rfl rfl ?_
    refine r_aload_n (μ := mX12_counts) (pc := 5) dX12_counts_5 rfl rfl rfl ?_
    refine r_getR (μ := mX12_counts) (pc := 6) dX12_counts_6 fpX12_7 rfl rfl (by decide) (hM _ _ rfl) ?_
    refine r_iconst (μ := mX12_counts) (pc := 9) (v := 3) dX12_counts_9 ic_3 ?_
    refine r_iaload (μ := mX12_counts) (pc := 10) (j := 3) dX12_counts_10 rfl rfl (by decide) (by decide) ?_
    refine r_icmp_ge (μ := mX12_counts) (pc := 11) (tgt := 40) dX12_counts_11 (by decide) (fun h_11 => ?_) (fun h_11 => absurd (by rw [hqq]; exact nI_le (by omega) (by omega)) h_11)
    obtain rfl : i = q := by omega
    refine r_iload_n (μ := mX12_counts) (pc := 40) dX12_counts_40 rfl rfl ?_
    exact r_iret (μ := mX12_counts) (pc := 41) dX12_counts_41 rfl rfl hq
  | succ k ih =>
    intro i hk
    refine r_iload_n (μ := mX12_counts) (pc := 4) dX12_counts_4 rfl rfl ?_
    refine r_aload_n (μ := mX12_counts) (pc := 5) dX12_counts_5 rfl rfl rfl ?_
    refine r_getR (μ := mX12_counts) (pc := 6) dX12_counts_6 fpX12_7 rfl rfl (by decide) (hM _ _ rfl) ?_
    refine r_iconst (μ := mX12_counts) (pc := 9) (v := 3) dX12_counts_9 ic_3 ?_
    refine r_iaload (μ := mX12_counts) (pc := 10) (j := 3) dX12_counts_10 rfl rfl (by decide) (by decide) ?_
    refine r_icmp_ge (μ := mX12_counts) (pc := 11) (tgt := 40) dX12_counts_11 (by decide) (fun h_11 => absurd h_11 (by rw [hqq]; exact nI_ge (by omega) (by omega))) (fun h_11 => ?_)
    refine r_aload_n (μ := mX12_counts) (pc := 14) dX12_counts_14 rfl rfl rfl ?_
    refine r_getR (μ := mX12_counts) (pc := 15) dX12_counts_15 fpX12_7 rfl rfl (by decide) (hM _ _ rfl) ?_
    refine r_aload_n (μ := mX12_counts) (pc := 18) dX12_counts_18 rfl rfl rfl ?_
    refine r_iload_n (μ := mX12_counts) (pc := 19) dX12_counts_19 rfl rfl ?_
    refine vP1 (μ := mX12_counts) (pc := 20) (c0 := 12) (q0 := (RX12, TX12, 34)) (μ2 := mX12_textAt) dX12_counts_20 rfl rfl lkX12_296 imX12_textAt seX12_X12_textAt_X12_textAt mwX12_textAt (Nat.le_of_ble_eq_true rfl) c_textAt ?_
    refine r_iaload (μ := mX12_counts) (pc := 23) (j := 80 + 200 * i) dX12_counts_23 rfl rfl (by omega) (by decide) ?_
    refine r_iload_n (μ := mX12_counts) (pc := 24) dX12_counts_24 rfl rfl ?_
    refine r_icmp_ne (μ := mX12_counts) (pc := 25) (tgt := 32) dX12_counts_25 (by decide) (fun h_25 => ?_) (fun h_25 => ?_)
    · refine r_iload_n (μ := mX12_counts) (pc := 32) dX12_counts_32 rfl rfl ?_
      refine s_istore_n (μ := mX12_counts) (pc := 33) (L2 := [_, _, _, _]) dX12_counts_33 rfl (Nat.le_of_ble_eq_true rfl) (Nat.le_of_ble_eq_true rfl) rfl rfl ?_
      refine s_iinc (μ := mX12_counts) (pc := 34) (c := 1) (L2 := [_, _, _, _]) dX12_counts_34 rfl ic_1 (Nat.le_of_ble_eq_true rfl) rfl rfl ?_
      refine r_goto (μ := mX12_counts) (pc := 37) (tgt := 4) dX12_counts_37 (by decide) ?_
      exact WP.L (by simp [lstT, lastB, nI_succ, h_25]) (ih (i + 1) (by omega))
    · refine r_iload_n (μ := mX12_counts) (pc := 28) dX12_counts_28 rfl rfl ?_
      refine r_goto (μ := mX12_counts) (pc := 29) (tgt := 33) dX12_counts_29 (by decide) ?_
      refine s_istore_n (μ := mX12_counts) (pc := 33) (L2 := [_, _, _, _]) dX12_counts_33 rfl (Nat.le_of_ble_eq_true rfl) (Nat.le_of_ble_eq_true rfl) rfl rfl ?_
      refine s_iinc (μ := mX12_counts) (pc := 34) (c := 1) (L2 := [_, _, _, _]) dX12_counts_34 rfl ic_1 (Nat.le_of_ble_eq_true rfl) rfl rfl ?_
      refine r_goto (μ := mX12_counts) (pc := 37) (tgt := 4) dX12_counts_37 (by decide) ?_
      exact WP.L (by simp [lstT, lastB, nI_succ, h_25]) (ih (i + 1) (by omega))

theorem c_counts {d : Nat} {mi : MI} {mr : MR} (hM : MB mr) {key : Int32} {q : Nat} (hq : mi 1 3 = nI q) (hq14 : q ≤ 14) : CP (d + 1) mX12_counts [.ref 0, .int key] shM mi mr 0 0 (PI (lstT (mi 1) q key) shM mi mr) := by
  refine CP.of (L := [_, _, _, _]) (by decide) rfl rfl (Nat.le_of_ble_eq_true rfl) ?_
  refine r_iconst (μ := mX12_counts) (pc := 0) (v := -1) dX12_counts_0 ic_m1 ?_
  refine s_istore_n (μ := mX12_counts) (pc := 1) (L2 := [_, _, _, _]) dX12_counts_1 rfl (Nat.le_of_ble_eq_true rfl) (Nat.le_of_ble_eq_true rfl) rfl rfl ?_
  refine r_iconst (μ := mX12_counts) (pc := 2) (v := 0) dX12_counts_2 ic_0 ?_
  refine s_istore_n (μ := mX12_counts) (pc := 3) (L2 := [_, _, _, _]) dX12_counts_3 rfl (Nat.le_of_ble_eq_true rfl) (Nat.le_of_ble_eq_true rfl) rfl rfl ?_
  exact lp_counts hM hq hq14 (PI_i rfl) q 0 (Nat.zero_add _)

theorem lp_worked {d : Nat} {mi : MI} {mr : MR} {Q : QT} (hM : MB mr) {t c : Nat} (ht : t < 14) (hc : mi 1 (80 + 200 * t + 2) = nI c) (hc96 : c ≤ 96) (hd1 : 1 ≤ depT (mi 1) t c) (hw : ∀ k, k < c → stOK (mi 1) t k) (hq : ∀ mi2, SP 15 mi mi2 → Q (some (.int ((runL (mi 1) t (mi 14) c).getD 0 0))) shM mi2 mr) :
    ∀ (j k : Nat), k + j = c → ∀ mi2 : MI, SP 15 mi mi2 → (∀ i, i < depT (mi 1) t k → mi2 15 i = (runL (mi 1) t (mi 14) k).getD i 0) → ∀ x4 x5 : Value, catL x4 = true → catL x5 = true →
      WP (d + 1) mX12_worked 4 [.ref 0, .int (nI t), .int (nI (depT (mi 1) t k)), .int (nI k), x4, x5] [] shM mi2 mr 0 0 Q := by
  intro j
  induction j with
  | zero =>
    intro k hk mi2 hS hp x4 x5 h4 h5
    obtain rfl : k = c := by omega
    have e1 : mi2 1 = mi 1 := hS 1 (by decide)
    refine r_iload_n (μ := mX12_worked) (pc := 4) dX12_worked_4 rfl rfl ?_
    refine r_aload_n (μ := mX12_worked) (pc := 5) dX12_worked_5 rfl rfl rfl ?_
    refine r_getR (μ := mX12_worked) (pc := 6) dX12_worked_6 fpX12_7 rfl rfl (by decide) (hM _ _ rfl) ?_
    refine r_aload_n (μ := mX12_worked) (pc := 9) dX12_worked_9 rfl rfl rfl ?_
    refine r_iload_n (μ := mX12_worked) (pc := 10) dX12_worked_10 rfl rfl ?_
    refine vP1 (μ := mX12_worked) (pc := 11) (c0 := 12) (q0 := (RX12, TX12, 34)) (μ2 := mX12_textAt) dX12_worked_11 rfl rfl lkX12_296 imX12_textAt seX12_X12_textAt_X12_textAt mwX12_textAt (Nat.le_of_ble_eq_true rfl) c_textAt ?_
    refine r_iconst (μ := mX12_worked) (pc := 14) (v := 2) dX12_worked_14 ic_2 ?_
    refine r_iadd (μ := mX12_worked) (pc := 15) dX12_worked_15 ?_
    refine r_iaload (μ := mX12_worked) (pc := 16) (j := ((80 + 200 * t) + 2)) dX12_worked_16 rfl (by simp only [← nI_add, ← pk_mul]; rfl) (by omega) (by decide) ?_
    rw [e1, hc]
    refine r_icmp_ge (μ := mX12_worked) (pc := 17) (tgt := 163) dX12_worked_17 (by decide) (fun h_17 => ?_) (fun h_17 => absurd (nI_le (Nat.le_refl _) (by omega)) h_17)
    refine r_aload_n (μ := mX12_worked) (pc := 163) dX12_worked_163 rfl rfl rfl ?_
    refine r_getR (μ := mX12_worked) (pc := 164) dX12_worked_164 fpX12_52 rfl rfl (by decide) (hM _ _ rfl) ?_
    refine r_iconst (μ := mX12_worked) (pc := 167) (v := 0) dX12_worked_167 ic_0 ?_
    refine r_iaload (μ := mX12_worked) (pc := 168) (j := 0) dX12_worked_168 rfl rfl (by decide) (by decide) ?_
    exact r_iret (μ := mX12_worked) (pc := 169) dX12_worked_169 rfl rfl (by rw [hp 0 (by omega)]; exact hq mi2 hS)
  | succ j ih =>
    intro k hk mi2 hS hp x4 x5 h4 h5
    have e1 : mi2 1 = mi 1 := hS 1 (by decide)
    have e14 : mi2 14 = mi 14 := hS 14 (by decide)
    have hlen := runL_len (mi 1) t (mi 14) k
    have hdk := depT_le (mi 1) t k
    have hS2 : ∀ (i : Nat) (x : Int32), SP 15 mi (upI mi2 15 i x) := fun i x a ha => (upI_ne ha).trans (hS a ha)
    rcases hw k (by omega) with h1 | ⟨h1, jj, hjj, hv, hnm⟩ | ⟨h1, ⟨hv, hdp⟩ | ⟨hs, hdp⟩⟩
    · have ed : depT (mi 1) t (k + 1) = depT (mi 1) t k + 1 := by simp only [depT, h1]; rfl
      have er : runL (mi 1) t (mi 14) (k + 1) = runL (mi 1) t (mi 14) k ++ [stV (mi 1) t k] := by simp only [runL, stL, h1]; rfl
      generalize hn : depT (mi 1) t k = n at *
      refine r_iload_n (μ := mX12_worked) (pc := 4) dX12_worked_4 rfl rfl ?_
      refine r_aload_n (μ := mX12_worked) (pc := 5) dX12_worked_5 rfl rfl rfl ?_
      refine r_getR (μ := mX12_worked) (pc := 6) dX12_worked_6 fpX12_7 rfl rfl (by decide) (hM _ _ rfl) ?_
      refine r_aload_n (μ := mX12_worked) (pc := 9) dX12_worked_9 rfl rfl rfl ?_
      refine r_iload_n (μ := mX12_worked) (pc := 10) dX12_worked_10 rfl rfl ?_
      refine vP1 (μ := mX12_worked) (pc := 11) (c0 := 12) (q0 := (RX12, TX12, 34)) (μ2 := mX12_textAt) dX12_worked_11 rfl rfl lkX12_296 imX12_textAt seX12_X12_textAt_X12_textAt mwX12_textAt (Nat.le_of_ble_eq_true rfl) c_textAt ?_
      refine r_iconst (μ := mX12_worked) (pc := 14) (v := 2) dX12_worked_14 ic_2 ?_
      refine r_iadd (μ := mX12_worked) (pc := 15) dX12_worked_15 ?_
      refine r_iaload (μ := mX12_worked) (pc := 16) (j := ((80 + 200 * t) + 2)) dX12_worked_16 rfl (by simp only [← nI_add, ← pk_mul]; rfl) (by omega) (by decide) ?_
      rw [e1, hc]
      refine r_icmp_ge (μ := mX12_worked) (pc := 17) (tgt := 163) dX12_worked_17 (by decide) (fun h_17 => absurd h_17 (nI_ge (by omega) (by omega))) (fun h_17 => ?_)
      refine r_aload_n (μ := mX12_worked) (pc := 20) dX12_worked_20 rfl rfl rfl ?_
      refine r_getR (μ := mX12_worked) (pc := 21) dX12_worked_21 fpX12_7 rfl rfl (by decide) (hM _ _ rfl) ?_
      refine r_aload_n (μ := mX12_worked) (pc := 24) dX12_worked_24 rfl rfl rfl ?_
      refine r_iload_n (μ := mX12_worked) (pc := 25) dX12_worked_25 rfl rfl ?_
      refine vP1 (μ := mX12_worked) (pc := 26) (c0 := 12) (q0 := (RX12, TX12, 34)) (μ2 := mX12_textAt) dX12_worked_26 rfl rfl lkX12_296 imX12_textAt seX12_X12_textAt_X12_textAt mwX12_textAt (Nat.le_of_ble_eq_true rfl) c_textAt ?_
      refine r_iconst (μ := mX12_worked) (pc := 29) (v := 4) dX12_worked_29 ic_4 ?_
      refine r_iadd (μ := mX12_worked) (pc := 30) dX12_worked_30 ?_
      refine r_iconst (μ := mX12_worked) (pc := 31) (v := 2) dX12_worked_31 ic_2 ?_
      refine r_iload_n (μ := mX12_worked) (pc := 32) dX12_worked_32 rfl rfl ?_
      refine r_imul (μ := mX12_worked) (pc := 33) dX12_worked_33 ?_
      refine r_iadd (μ := mX12_worked) (pc := 34) dX12_worked_34 ?_
      refine r_iaload (μ := mX12_worked) (pc := 35) (j := (((80 + 200 * t) + 4) + (2 * k))) dX12_worked_35 rfl (by simp only [← nI_add, ← pk_mul]; rfl) (by omega) (by decide) ?_
      rw [e1]
      refine s_istore (μ := mX12_worked) (pc := 36) (L2 := [_, _, _, _, _, _]) dX12_worked_36 (Nat.le_of_ble_eq_true rfl) (Nat.le_of_ble_eq_true rfl) (by simp only [List.all_cons, List.all_nil, catL_i, catL_r, h4, h5, Bool.and_self]) rfl ?_
      refine r_aload_n (μ := mX12_worked) (pc := 38) dX12_worked_38 rfl rfl rfl ?_
      refine r_getR (μ := mX12_worked) (pc := 39) dX12_worked_39 fpX12_7 rfl rfl (by decide) (hM _ _ rfl) ?_
      refine r_aload_n (μ := mX12_worked) (pc := 42) dX12_worked_42 rfl rfl rfl ?_
      refine r_iload_n (μ := mX12_worked) (pc := 43) dX12_worked_43 rfl rfl ?_
      refine vP1 (μ := mX12_worked) (pc := 44) (c0 := 12) (q0 := (RX12, TX12, 34)) (μ2 := mX12_textAt) dX12_worked_44 rfl rfl lkX12_296 imX12_textAt seX12_X12_textAt_X12_textAt mwX12_textAt (Nat.le_of_ble_eq_true rfl) c_textAt ?_
      refine r_iconst (μ := mX12_worked) (pc := 47) (v := 4) dX12_worked_47 ic_4 ?_
      refine r_iadd (μ := mX12_worked) (pc := 48) dX12_worked_48 ?_
      refine r_iconst (μ := mX12_worked) (pc := 49) (v := 2) dX12_worked_49 ic_2 ?_
      refine r_iload_n (μ := mX12_worked) (pc := 50) dX12_worked_50 rfl rfl ?_
      refine r_imul (μ := mX12_worked) (pc := 51) dX12_worked_51 ?_
      refine r_iadd (μ := mX12_worked) (pc := 52) dX12_worked_52 ?_
      refine r_iconst (μ := mX12_worked) (pc := 53) (v := 1) dX12_worked_53 ic_1 ?_
      refine r_iadd (μ := mX12_worked) (pc := 54) dX12_worked_54 ?_
      refine r_iaload (μ := mX12_worked) (pc := 55) (j := ((((80 + 200 * t) + 4) + (2 * k)) + 1)) dX12_worked_55 rfl (by simp only [← nI_add, ← pk_mul]; rfl) (by omega) (by decide) ?_
      rw [e1]
      refine s_istore (μ := mX12_worked) (pc := 56) (L2 := [_, _, _, _, _, _]) dX12_worked_56 (Nat.le_of_ble_eq_true rfl) (Nat.le_of_ble_eq_true rfl) (by simp only [List.all_cons, List.all_nil, catL_i, catL_r, h4, h5, Bool.and_self]) rfl ?_
      refine r_iload (μ := mX12_worked) (pc := 58) dX12_worked_58 rfl ?_
      refine r_iconst (μ := mX12_worked) (pc := 60) (v := 2) dX12_worked_60 ic_2 ?_
      refine r_icmp_eq (μ := mX12_worked) (pc := 61) (tgt := 93) dX12_worked_61 (by decide) (fun h_61 => absurd h_61 (by rw [show mi 1 (80 + 200 * t + 4 + 2 * k) = 0 from h1]; decide)) (fun h_61 => ?_)
      refine r_aload_n (μ := mX12_worked) (pc := 64) dX12_worked_64 rfl rfl rfl ?_
      refine r_getR (μ := mX12_worked) (pc := 65) dX12_worked_65 fpX12_52 rfl rfl (by decide) (hM _ _ rfl) ?_
      refine r_iload_n (μ := mX12_worked) (pc := 68) dX12_worked_68 rfl rfl ?_
      refine r_iload (μ := mX12_worked) (pc := 69) dX12_worked_69 rfl ?_
      refine r_if_ne (μ := mX12_worked) (pc := 71) (tgt := 79) dX12_worked_71 (by decide) (fun h_71 => absurd h1 h_71) (fun h_71 => ?_)
      refine r_iload (μ := mX12_worked) (pc := 74) dX12_worked_74 rfl ?_
      refine r_goto (μ := mX12_worked) (pc := 76) (tgt := 86) dX12_worked_76 (by decide) ?_
      refine r_iastore (μ := mX12_worked) (pc := 86) (j := n) dX12_worked_86 rfl rfl (by omega) (by decide) ?_
      refine s_iinc (μ := mX12_worked) (pc := 87) (c := 1) (L2 := [_, _, _, _, _, _]) dX12_worked_87 rfl ic_1 (Nat.le_of_ble_eq_true rfl) (by simp only [List.all_cons, List.all_nil, catL_i, catL_r, h4, h5, Bool.and_self]) rfl ?_
      refine r_goto (μ := mX12_worked) (pc := 90) (tgt := 157) dX12_worked_90 (by decide) ?_
      refine s_iinc (μ := mX12_worked) (pc := 157) (c := 1) (L2 := [_, _, _, _, _, _]) dX12_worked_157 rfl ic_1 (Nat.le_of_ble_eq_true rfl) (by simp only [List.all_cons, List.all_nil, catL_i, catL_r, h4, h5, Bool.and_self]) rfl ?_
      refine r_goto (μ := mX12_worked) (pc := 160) (tgt := 4) dX12_worked_160 (by decide) ?_
      exact WP.L (by rw [ed, nI_succ, nI_succ]) (ih (k + 1) (by omega) _ (hS2 _ _) (by rw [ed, er, upI_self]; exact pl_push hlen hp) _ _ rfl rfl)
    · have ed : depT (mi 1) t (k + 1) = depT (mi 1) t k + 1 := by simp only [depT, h1]; rfl
      have er : runL (mi 1) t (mi 14) (k + 1) = runL (mi 1) t (mi 14) k ++ [mi 14 jj] := by simp only [runL, stL, h1, hv, nI_clamp (show jj < 2 ^ 31 by omega)]; rfl
      generalize hn : depT (mi 1) t k = n at *
      refine r_iload_n (μ := mX12_worked) (pc := 4) dX12_worked_4 rfl rfl ?_
      refine r_aload_n (μ := mX12_worked) (pc := 5) dX12_worked_5 rfl rfl rfl ?_
      refine r_getR (μ := mX12_worked) (pc := 6) dX12_worked_6 fpX12_7 rfl rfl (by decide) (hM _ _ rfl) ?_
      refine r_aload_n (μ := mX12_worked) (pc := 9) dX12_worked_9 rfl rfl rfl ?_
      refine r_iload_n (μ := mX12_worked) (pc := 10) dX12_worked_10 rfl rfl ?_
      refine vP1 (μ := mX12_worked) (pc := 11) (c0 := 12) (q0 := (RX12, TX12, 34)) (μ2 := mX12_textAt) dX12_worked_11 rfl rfl lkX12_296 imX12_textAt seX12_X12_textAt_X12_textAt mwX12_textAt (Nat.le_of_ble_eq_true rfl) c_textAt ?_
      refine r_iconst (μ := mX12_worked) (pc := 14) (v := 2) dX12_worked_14 ic_2 ?_
      refine r_iadd (μ := mX12_worked) (pc := 15) dX12_worked_15 ?_
      refine r_iaload (μ := mX12_worked) (pc := 16) (j := ((80 + 200 * t) + 2)) dX12_worked_16 rfl (by simp only [← nI_add, ← pk_mul]; rfl) (by omega) (by decide) ?_
      rw [e1, hc]
      refine r_icmp_ge (μ := mX12_worked) (pc := 17) (tgt := 163) dX12_worked_17 (by decide) (fun h_17 => absurd h_17 (nI_ge (by omega) (by omega))) (fun h_17 => ?_)
      refine r_aload_n (μ := mX12_worked) (pc := 20) dX12_worked_20 rfl rfl rfl ?_
      refine r_getR (μ := mX12_worked) (pc := 21) dX12_worked_21 fpX12_7 rfl rfl (by decide) (hM _ _ rfl) ?_
      refine r_aload_n (μ := mX12_worked) (pc := 24) dX12_worked_24 rfl rfl rfl ?_
      refine r_iload_n (μ := mX12_worked) (pc := 25) dX12_worked_25 rfl rfl ?_
      refine vP1 (μ := mX12_worked) (pc := 26) (c0 := 12) (q0 := (RX12, TX12, 34)) (μ2 := mX12_textAt) dX12_worked_26 rfl rfl lkX12_296 imX12_textAt seX12_X12_textAt_X12_textAt mwX12_textAt (Nat.le_of_ble_eq_true rfl) c_textAt ?_
      refine r_iconst (μ := mX12_worked) (pc := 29) (v := 4) dX12_worked_29 ic_4 ?_
      refine r_iadd (μ := mX12_worked) (pc := 30) dX12_worked_30 ?_
      refine r_iconst (μ := mX12_worked) (pc := 31) (v := 2) dX12_worked_31 ic_2 ?_
      refine r_iload_n (μ := mX12_worked) (pc := 32) dX12_worked_32 rfl rfl ?_
      refine r_imul (μ := mX12_worked) (pc := 33) dX12_worked_33 ?_
      refine r_iadd (μ := mX12_worked) (pc := 34) dX12_worked_34 ?_
      refine r_iaload (μ := mX12_worked) (pc := 35) (j := (((80 + 200 * t) + 4) + (2 * k))) dX12_worked_35 rfl (by simp only [← nI_add, ← pk_mul]; rfl) (by omega) (by decide) ?_
      rw [e1]
      refine s_istore (μ := mX12_worked) (pc := 36) (L2 := [_, _, _, _, _, _]) dX12_worked_36 (Nat.le_of_ble_eq_true rfl) (Nat.le_of_ble_eq_true rfl) (by simp only [List.all_cons, List.all_nil, catL_i, catL_r, h4, h5, Bool.and_self]) rfl ?_
      refine r_aload_n (μ := mX12_worked) (pc := 38) dX12_worked_38 rfl rfl rfl ?_
      refine r_getR (μ := mX12_worked) (pc := 39) dX12_worked_39 fpX12_7 rfl rfl (by decide) (hM _ _ rfl) ?_
      refine r_aload_n (μ := mX12_worked) (pc := 42) dX12_worked_42 rfl rfl rfl ?_
      refine r_iload_n (μ := mX12_worked) (pc := 43) dX12_worked_43 rfl rfl ?_
      refine vP1 (μ := mX12_worked) (pc := 44) (c0 := 12) (q0 := (RX12, TX12, 34)) (μ2 := mX12_textAt) dX12_worked_44 rfl rfl lkX12_296 imX12_textAt seX12_X12_textAt_X12_textAt mwX12_textAt (Nat.le_of_ble_eq_true rfl) c_textAt ?_
      refine r_iconst (μ := mX12_worked) (pc := 47) (v := 4) dX12_worked_47 ic_4 ?_
      refine r_iadd (μ := mX12_worked) (pc := 48) dX12_worked_48 ?_
      refine r_iconst (μ := mX12_worked) (pc := 49) (v := 2) dX12_worked_49 ic_2 ?_
      refine r_iload_n (μ := mX12_worked) (pc := 50) dX12_worked_50 rfl rfl ?_
      refine r_imul (μ := mX12_worked) (pc := 51) dX12_worked_51 ?_
      refine r_iadd (μ := mX12_worked) (pc := 52) dX12_worked_52 ?_
      refine r_iconst (μ := mX12_worked) (pc := 53) (v := 1) dX12_worked_53 ic_1 ?_
      refine r_iadd (μ := mX12_worked) (pc := 54) dX12_worked_54 ?_
      refine r_iaload (μ := mX12_worked) (pc := 55) (j := ((((80 + 200 * t) + 4) + (2 * k)) + 1)) dX12_worked_55 rfl (by simp only [← nI_add, ← pk_mul]; rfl) (by omega) (by decide) ?_
      rw [e1]
      refine s_istore (μ := mX12_worked) (pc := 56) (L2 := [_, _, _, _, _, _]) dX12_worked_56 (Nat.le_of_ble_eq_true rfl) (Nat.le_of_ble_eq_true rfl) (by simp only [List.all_cons, List.all_nil, catL_i, catL_r, h4, h5, Bool.and_self]) rfl ?_
      refine r_iload (μ := mX12_worked) (pc := 58) dX12_worked_58 rfl ?_
      refine r_iconst (μ := mX12_worked) (pc := 60) (v := 2) dX12_worked_60 ic_2 ?_
      refine r_icmp_eq (μ := mX12_worked) (pc := 61) (tgt := 93) dX12_worked_61 (by decide) (fun h_61 => absurd h_61 (by rw [show mi 1 (80 + 200 * t + 4 + 2 * k) = 1 from h1]; decide)) (fun h_61 => ?_)
      refine r_aload_n (μ := mX12_worked) (pc := 64) dX12_worked_64 rfl rfl rfl ?_
      refine r_getR (μ := mX12_worked) (pc := 65) dX12_worked_65 fpX12_52 rfl rfl (by decide) (hM _ _ rfl) ?_
      refine r_iload_n (μ := mX12_worked) (pc := 68) dX12_worked_68 rfl rfl ?_
      refine r_iload (μ := mX12_worked) (pc := 69) dX12_worked_69 rfl ?_
      refine r_if_ne (μ := mX12_worked) (pc := 71) (tgt := 79) dX12_worked_71 (by decide) (fun h_71 => ?_) (fun h_71 => absurd h_71 (by rw [show mi 1 (80 + 200 * t + 4 + 2 * k) = 1 from h1]; decide))
      refine r_aload_n (μ := mX12_worked) (pc := 79) dX12_worked_79 rfl rfl rfl ?_
      refine r_getR (μ := mX12_worked) (pc := 80) dX12_worked_80 fpX12_49 rfl rfl (by decide) (hM _ _ rfl) ?_
      refine r_iload (μ := mX12_worked) (pc := 83) dX12_worked_83 rfl ?_
      refine r_iaload (μ := mX12_worked) (pc := 85) (j := jj) dX12_worked_85 rfl hv (by omega) (by decide) ?_
      rw [e14]
      refine r_iastore (μ := mX12_worked) (pc := 86) (j := n) dX12_worked_86 rfl rfl (by omega) (by decide) ?_
      refine s_iinc (μ := mX12_worked) (pc := 87) (c := 1) (L2 := [_, _, _, _, _, _]) dX12_worked_87 rfl ic_1 (Nat.le_of_ble_eq_true rfl) (by simp only [List.all_cons, List.all_nil, catL_i, catL_r, h4, h5, Bool.and_self]) rfl ?_
      refine r_goto (μ := mX12_worked) (pc := 90) (tgt := 157) dX12_worked_90 (by decide) ?_
      refine s_iinc (μ := mX12_worked) (pc := 157) (c := 1) (L2 := [_, _, _, _, _, _]) dX12_worked_157 rfl ic_1 (Nat.le_of_ble_eq_true rfl) (by simp only [List.all_cons, List.all_nil, catL_i, catL_r, h4, h5, Bool.and_self]) rfl ?_
      refine r_goto (μ := mX12_worked) (pc := 160) (tgt := 4) dX12_worked_160 (by decide) ?_
      exact WP.L (by rw [ed, nI_succ, nI_succ]) (ih (k + 1) (by omega) _ (hS2 _ _) (by rw [ed, er, upI_self]; exact pl_push hlen hp) _ _ rfl rfl)
    · have ed : depT (mi 1) t (k + 1) = depT (mi 1) t k := by simp only [depT, h1, hv]; rfl
      have er : runL (mi 1) t (mi 14) (k + 1) = (runL (mi 1) t (mi 14) k).set (depT (mi 1) t k - 1) (ntI ((runL (mi 1) t (mi 14) k).getD (depT (mi 1) t k - 1) 0)) := by simp only [runL, stL, h1, hv, hlen]; rfl
      generalize hn : depT (mi 1) t k = n at *
      have hpn := hp (n - 1) (by omega)
      refine r_iload_n (μ := mX12_worked) (pc := 4) dX12_worked_4 rfl rfl ?_
      refine r_aload_n (μ := mX12_worked) (pc := 5) dX12_worked_5 rfl rfl rfl ?_
      refine r_getR (μ := mX12_worked) (pc := 6) dX12_worked_6 fpX12_7 rfl rfl (by decide) (hM _ _ rfl) ?_
      refine r_aload_n (μ := mX12_worked) (pc := 9) dX12_worked_9 rfl rfl rfl ?_
      refine r_iload_n (μ := mX12_worked) (pc := 10) dX12_worked_10 rfl rfl ?_
      refine vP1 (μ := mX12_worked) (pc := 11) (c0 := 12) (q0 := (RX12, TX12, 34)) (μ2 := mX12_textAt) dX12_worked_11 rfl rfl lkX12_296 imX12_textAt seX12_X12_textAt_X12_textAt mwX12_textAt (Nat.le_of_ble_eq_true rfl) c_textAt ?_
      refine r_iconst (μ := mX12_worked) (pc := 14) (v := 2) dX12_worked_14 ic_2 ?_
      refine r_iadd (μ := mX12_worked) (pc := 15) dX12_worked_15 ?_
      refine r_iaload (μ := mX12_worked) (pc := 16) (j := ((80 + 200 * t) + 2)) dX12_worked_16 rfl (by simp only [← nI_add, ← pk_mul]; rfl) (by omega) (by decide) ?_
      rw [e1, hc]
      refine r_icmp_ge (μ := mX12_worked) (pc := 17) (tgt := 163) dX12_worked_17 (by decide) (fun h_17 => absurd h_17 (nI_ge (by omega) (by omega))) (fun h_17 => ?_)
      refine r_aload_n (μ := mX12_worked) (pc := 20) dX12_worked_20 rfl rfl rfl ?_
      refine r_getR (μ := mX12_worked) (pc := 21) dX12_worked_21 fpX12_7 rfl rfl (by decide) (hM _ _ rfl) ?_
      refine r_aload_n (μ := mX12_worked) (pc := 24) dX12_worked_24 rfl rfl rfl ?_
      refine r_iload_n (μ := mX12_worked) (pc := 25) dX12_worked_25 rfl rfl ?_
      refine vP1 (μ := mX12_worked) (pc := 26) (c0 := 12) (q0 := (RX12, TX12, 34)) (μ2 := mX12_textAt) dX12_worked_26 rfl rfl lkX12_296 imX12_textAt seX12_X12_textAt_X12_textAt mwX12_textAt (Nat.le_of_ble_eq_true rfl) c_textAt ?_
      refine r_iconst (μ := mX12_worked) (pc := 29) (v := 4) dX12_worked_29 ic_4 ?_
      refine r_iadd (μ := mX12_worked) (pc := 30) dX12_worked_30 ?_
      refine r_iconst (μ := mX12_worked) (pc := 31) (v := 2) dX12_worked_31 ic_2 ?_
      refine r_iload_n (μ := mX12_worked) (pc := 32) dX12_worked_32 rfl rfl ?_
      refine r_imul (μ := mX12_worked) (pc := 33) dX12_worked_33 ?_
      refine r_iadd (μ := mX12_worked) (pc := 34) dX12_worked_34 ?_
      refine r_iaload (μ := mX12_worked) (pc := 35) (j := (((80 + 200 * t) + 4) + (2 * k))) dX12_worked_35 rfl (by simp only [← nI_add, ← pk_mul]; rfl) (by omega) (by decide) ?_
      rw [e1]
      refine s_istore (μ := mX12_worked) (pc := 36) (L2 := [_, _, _, _, _, _]) dX12_worked_36 (Nat.le_of_ble_eq_true rfl) (Nat.le_of_ble_eq_true rfl) (by simp only [List.all_cons, List.all_nil, catL_i, catL_r, h4, h5, Bool.and_self]) rfl ?_
      refine r_aload_n (μ := mX12_worked) (pc := 38) dX12_worked_38 rfl rfl rfl ?_
      refine r_getR (μ := mX12_worked) (pc := 39) dX12_worked_39 fpX12_7 rfl rfl (by decide) (hM _ _ rfl) ?_
      refine r_aload_n (μ := mX12_worked) (pc := 42) dX12_worked_42 rfl rfl rfl ?_
      refine r_iload_n (μ := mX12_worked) (pc := 43) dX12_worked_43 rfl rfl ?_
      refine vP1 (μ := mX12_worked) (pc := 44) (c0 := 12) (q0 := (RX12, TX12, 34)) (μ2 := mX12_textAt) dX12_worked_44 rfl rfl lkX12_296 imX12_textAt seX12_X12_textAt_X12_textAt mwX12_textAt (Nat.le_of_ble_eq_true rfl) c_textAt ?_
      refine r_iconst (μ := mX12_worked) (pc := 47) (v := 4) dX12_worked_47 ic_4 ?_
      refine r_iadd (μ := mX12_worked) (pc := 48) dX12_worked_48 ?_
      refine r_iconst (μ := mX12_worked) (pc := 49) (v := 2) dX12_worked_49 ic_2 ?_
      refine r_iload_n (μ := mX12_worked) (pc := 50) dX12_worked_50 rfl rfl ?_
      refine r_imul (μ := mX12_worked) (pc := 51) dX12_worked_51 ?_
      refine r_iadd (μ := mX12_worked) (pc := 52) dX12_worked_52 ?_
      refine r_iconst (μ := mX12_worked) (pc := 53) (v := 1) dX12_worked_53 ic_1 ?_
      refine r_iadd (μ := mX12_worked) (pc := 54) dX12_worked_54 ?_
      refine r_iaload (μ := mX12_worked) (pc := 55) (j := ((((80 + 200 * t) + 4) + (2 * k)) + 1)) dX12_worked_55 rfl (by simp only [← nI_add, ← pk_mul]; rfl) (by omega) (by decide) ?_
      rw [e1]
      refine s_istore (μ := mX12_worked) (pc := 56) (L2 := [_, _, _, _, _, _]) dX12_worked_56 (Nat.le_of_ble_eq_true rfl) (Nat.le_of_ble_eq_true rfl) (by simp only [List.all_cons, List.all_nil, catL_i, catL_r, h4, h5, Bool.and_self]) rfl ?_
      refine r_iload (μ := mX12_worked) (pc := 58) dX12_worked_58 rfl ?_
      refine r_iconst (μ := mX12_worked) (pc := 60) (v := 2) dX12_worked_60 ic_2 ?_
      refine r_icmp_eq (μ := mX12_worked) (pc := 61) (tgt := 93) dX12_worked_61 (by decide) (fun h_61 => ?_) (fun h_61 => absurd h1 h_61)
      refine r_iload (μ := mX12_worked) (pc := 93) dX12_worked_93 rfl ?_
      refine r_bipush (μ := mX12_worked) (pc := 95) (v := 33) dX12_worked_95 bp_33 ?_
      refine r_icmp_ne (μ := mX12_worked) (pc := 97) (tgt := 127) dX12_worked_97 (by decide) (fun h_97 => absurd hv h_97) (fun h_97 => ?_)
      refine r_aload_n (μ := mX12_worked) (pc := 100) dX12_worked_100 rfl rfl rfl ?_
      refine r_getR (μ := mX12_worked) (pc := 101) dX12_worked_101 fpX12_52 rfl rfl (by decide) (hM _ _ rfl) ?_
      refine r_iload_n (μ := mX12_worked) (pc := 104) dX12_worked_104 rfl rfl ?_
      refine r_iconst (μ := mX12_worked) (pc := 105) (v := 1) dX12_worked_105 ic_1 ?_
      refine r_isub (μ := mX12_worked) (pc := 106) dX12_worked_106 ?_
      rw [sub1 hdp]
      refine r_aload_n (μ := mX12_worked) (pc := 107) dX12_worked_107 rfl rfl rfl ?_
      refine r_getR (μ := mX12_worked) (pc := 108) dX12_worked_108 fpX12_52 rfl rfl (by decide) (hM _ _ rfl) ?_
      refine r_iload_n (μ := mX12_worked) (pc := 111) dX12_worked_111 rfl rfl ?_
      refine r_iconst (μ := mX12_worked) (pc := 112) (v := 1) dX12_worked_112 ic_1 ?_
      refine r_isub (μ := mX12_worked) (pc := 113) dX12_worked_113 ?_
      rw [sub1 hdp]
      refine r_iaload (μ := mX12_worked) (pc := 114) (j := n - 1) dX12_worked_114 rfl rfl (by omega) (by decide) ?_
      refine r_if_ne (μ := mX12_worked) (pc := 115) (tgt := 122) dX12_worked_115 (by decide) (fun h_115 => ?_) (fun h_115 => ?_)
      · have hz : ntI (mi2 15 (n - 1)) = 0 := by simp [ntI, h_115]
        refine r_iconst (μ := mX12_worked) (pc := 122) (v := 0) dX12_worked_122 ic_0 ?_
        refine r_iastore (μ := mX12_worked) (pc := 123) (j := n - 1) dX12_worked_123 rfl rfl (by omega) (by decide) ?_
        refine r_goto (μ := mX12_worked) (pc := 124) (tgt := 157) dX12_worked_124 (by decide) ?_
        refine s_iinc (μ := mX12_worked) (pc := 157) (c := 1) (L2 := [_, _, _, _, _, _]) dX12_worked_157 rfl ic_1 (Nat.le_of_ble_eq_true rfl) (by simp only [List.all_cons, List.all_nil, catL_i, catL_r, h4, h5, Bool.and_self]) rfl ?_
        refine r_goto (μ := mX12_worked) (pc := 160) (tgt := 4) dX12_worked_160 (by decide) ?_
        exact WP.L (by rw [ed, nI_succ]) (ih (k + 1) (by omega) _ (hS2 _ _) (by rw [ed, er, upI_self, ← hpn, hz]; exact pl_set hlen hp (by omega)) _ _ rfl rfl)
      · have hz : ntI (mi2 15 (n - 1)) = 1 := by simp [ntI, h_115]
        refine r_iconst (μ := mX12_worked) (pc := 118) (v := 1) dX12_worked_118 ic_1 ?_
        refine r_goto (μ := mX12_worked) (pc := 119) (tgt := 123) dX12_worked_119 (by decide) ?_
        refine r_iastore (μ := mX12_worked) (pc := 123) (j := n - 1) dX12_worked_123 rfl rfl (by omega) (by decide) ?_
        refine r_goto (μ := mX12_worked) (pc := 124) (tgt := 157) dX12_worked_124 (by decide) ?_
        refine s_iinc (μ := mX12_worked) (pc := 157) (c := 1) (L2 := [_, _, _, _, _, _]) dX12_worked_157 rfl ic_1 (Nat.le_of_ble_eq_true rfl) (by simp only [List.all_cons, List.all_nil, catL_i, catL_r, h4, h5, Bool.and_self]) rfl ?_
        refine r_goto (μ := mX12_worked) (pc := 160) (tgt := 4) dX12_worked_160 (by decide) ?_
        exact WP.L (by rw [ed, nI_succ]) (ih (k + 1) (by omega) _ (hS2 _ _) (by rw [ed, er, upI_self, ← hpn, hz]; exact pl_set hlen hp (by omega)) _ _ rfl rfl)
    · have hv : ¬ stV (mi 1) t k = 33 := by intro q; rw [q] at hs; rcases hs with h | h | h | h | h | h | h | h | h <;> exact absurd h (by decide)
      have ed : depT (mi 1) t (k + 1) = depT (mi 1) t k - 1 := by simp only [depT, h1, if_neg hv]; rfl
      have er : runL (mi 1) t (mi 14) (k + 1) = (runL (mi 1) t (mi 14) k).dropLast.set (depT (mi 1) t k - 2) (jn (stV (mi 1) t k) ((runL (mi 1) t (mi 14) k).getD (depT (mi 1) t k - 2) 0) ((runL (mi 1) t (mi 14) k).getD (depT (mi 1) t k - 1) 0)) := by simp only [runL, stL, h1, if_neg hv, hlen]; rfl
      generalize hn : depT (mi 1) t k = n at *
      have hp1 := hp (n - 1) (by omega)
      have hp2 := hp (n - 2) (by omega)
      refine r_iload_n (μ := mX12_worked) (pc := 4) dX12_worked_4 rfl rfl ?_
      refine r_aload_n (μ := mX12_worked) (pc := 5) dX12_worked_5 rfl rfl rfl ?_
      refine r_getR (μ := mX12_worked) (pc := 6) dX12_worked_6 fpX12_7 rfl rfl (by decide) (hM _ _ rfl) ?_
      refine r_aload_n (μ := mX12_worked) (pc := 9) dX12_worked_9 rfl rfl rfl ?_
      refine r_iload_n (μ := mX12_worked) (pc := 10) dX12_worked_10 rfl rfl ?_
      refine vP1 (μ := mX12_worked) (pc := 11) (c0 := 12) (q0 := (RX12, TX12, 34)) (μ2 := mX12_textAt) dX12_worked_11 rfl rfl lkX12_296 imX12_textAt seX12_X12_textAt_X12_textAt mwX12_textAt (Nat.le_of_ble_eq_true rfl) c_textAt ?_
      refine r_iconst (μ := mX12_worked) (pc := 14) (v := 2) dX12_worked_14 ic_2 ?_
      refine r_iadd (μ := mX12_worked) (pc := 15) dX12_worked_15 ?_
      refine r_iaload (μ := mX12_worked) (pc := 16) (j := ((80 + 200 * t) + 2)) dX12_worked_16 rfl (by simp only [← nI_add, ← pk_mul]; rfl) (by omega) (by decide) ?_
      rw [e1, hc]
      refine r_icmp_ge (μ := mX12_worked) (pc := 17) (tgt := 163) dX12_worked_17 (by decide) (fun h_17 => absurd h_17 (nI_ge (by omega) (by omega))) (fun h_17 => ?_)
      refine r_aload_n (μ := mX12_worked) (pc := 20) dX12_worked_20 rfl rfl rfl ?_
      refine r_getR (μ := mX12_worked) (pc := 21) dX12_worked_21 fpX12_7 rfl rfl (by decide) (hM _ _ rfl) ?_
      refine r_aload_n (μ := mX12_worked) (pc := 24) dX12_worked_24 rfl rfl rfl ?_
      refine r_iload_n (μ := mX12_worked) (pc := 25) dX12_worked_25 rfl rfl ?_
      refine vP1 (μ := mX12_worked) (pc := 26) (c0 := 12) (q0 := (RX12, TX12, 34)) (μ2 := mX12_textAt) dX12_worked_26 rfl rfl lkX12_296 imX12_textAt seX12_X12_textAt_X12_textAt mwX12_textAt (Nat.le_of_ble_eq_true rfl) c_textAt ?_
      refine r_iconst (μ := mX12_worked) (pc := 29) (v := 4) dX12_worked_29 ic_4 ?_
      refine r_iadd (μ := mX12_worked) (pc := 30) dX12_worked_30 ?_
      refine r_iconst (μ := mX12_worked) (pc := 31) (v := 2) dX12_worked_31 ic_2 ?_
      refine r_iload_n (μ := mX12_worked) (pc := 32) dX12_worked_32 rfl rfl ?_
      refine r_imul (μ := mX12_worked) (pc := 33) dX12_worked_33 ?_
      refine r_iadd (μ := mX12_worked) (pc := 34) dX12_worked_34 ?_
      refine r_iaload (μ := mX12_worked) (pc := 35) (j := (((80 + 200 * t) + 4) + (2 * k))) dX12_worked_35 rfl (by simp only [← nI_add, ← pk_mul]; rfl) (by omega) (by decide) ?_
      rw [e1]
      refine s_istore (μ := mX12_worked) (pc := 36) (L2 := [_, _, _, _, _, _]) dX12_worked_36 (Nat.le_of_ble_eq_true rfl) (Nat.le_of_ble_eq_true rfl) (by simp only [List.all_cons, List.all_nil, catL_i, catL_r, h4, h5, Bool.and_self]) rfl ?_
      refine r_aload_n (μ := mX12_worked) (pc := 38) dX12_worked_38 rfl rfl rfl ?_
      refine r_getR (μ := mX12_worked) (pc := 39) dX12_worked_39 fpX12_7 rfl rfl (by decide) (hM _ _ rfl) ?_
      refine r_aload_n (μ := mX12_worked) (pc := 42) dX12_worked_42 rfl rfl rfl ?_
      refine r_iload_n (μ := mX12_worked) (pc := 43) dX12_worked_43 rfl rfl ?_
      refine vP1 (μ := mX12_worked) (pc := 44) (c0 := 12) (q0 := (RX12, TX12, 34)) (μ2 := mX12_textAt) dX12_worked_44 rfl rfl lkX12_296 imX12_textAt seX12_X12_textAt_X12_textAt mwX12_textAt (Nat.le_of_ble_eq_true rfl) c_textAt ?_
      refine r_iconst (μ := mX12_worked) (pc := 47) (v := 4) dX12_worked_47 ic_4 ?_
      refine r_iadd (μ := mX12_worked) (pc := 48) dX12_worked_48 ?_
      refine r_iconst (μ := mX12_worked) (pc := 49) (v := 2) dX12_worked_49 ic_2 ?_
      refine r_iload_n (μ := mX12_worked) (pc := 50) dX12_worked_50 rfl rfl ?_
      refine r_imul (μ := mX12_worked) (pc := 51) dX12_worked_51 ?_
      refine r_iadd (μ := mX12_worked) (pc := 52) dX12_worked_52 ?_
      refine r_iconst (μ := mX12_worked) (pc := 53) (v := 1) dX12_worked_53 ic_1 ?_
      refine r_iadd (μ := mX12_worked) (pc := 54) dX12_worked_54 ?_
      refine r_iaload (μ := mX12_worked) (pc := 55) (j := ((((80 + 200 * t) + 4) + (2 * k)) + 1)) dX12_worked_55 rfl (by simp only [← nI_add, ← pk_mul]; rfl) (by omega) (by decide) ?_
      rw [e1]
      refine s_istore (μ := mX12_worked) (pc := 56) (L2 := [_, _, _, _, _, _]) dX12_worked_56 (Nat.le_of_ble_eq_true rfl) (Nat.le_of_ble_eq_true rfl) (by simp only [List.all_cons, List.all_nil, catL_i, catL_r, h4, h5, Bool.and_self]) rfl ?_
      refine r_iload (μ := mX12_worked) (pc := 58) dX12_worked_58 rfl ?_
      refine r_iconst (μ := mX12_worked) (pc := 60) (v := 2) dX12_worked_60 ic_2 ?_
      refine r_icmp_eq (μ := mX12_worked) (pc := 61) (tgt := 93) dX12_worked_61 (by decide) (fun h_61 => ?_) (fun h_61 => absurd h1 h_61)
      refine r_iload (μ := mX12_worked) (pc := 93) dX12_worked_93 rfl ?_
      refine r_bipush (μ := mX12_worked) (pc := 95) (v := 33) dX12_worked_95 bp_33 ?_
      refine r_icmp_ne (μ := mX12_worked) (pc := 97) (tgt := 127) dX12_worked_97 (by decide) (fun h_97 => ?_) (fun h_97 => absurd h_97 hv)
      refine s_iinc (μ := mX12_worked) (pc := 127) (c := -1) (L2 := [_, _, _, _, _, _]) dX12_worked_127 rfl ic_m1 (Nat.le_of_ble_eq_true rfl) (by simp only [List.all_cons, List.all_nil, catL_i, catL_r, h4, h5, Bool.and_self]) rfl ?_
      rw [subm1 (by omega)]
      refine r_aload_n (μ := mX12_worked) (pc := 130) dX12_worked_130 rfl rfl rfl ?_
      refine r_getR (μ := mX12_worked) (pc := 131) dX12_worked_131 fpX12_52 rfl rfl (by decide) (hM _ _ rfl) ?_
      refine r_iload_n (μ := mX12_worked) (pc := 134) dX12_worked_134 rfl rfl ?_
      refine r_iconst (μ := mX12_worked) (pc := 135) (v := 1) dX12_worked_135 ic_1 ?_
      refine r_isub (μ := mX12_worked) (pc := 136) dX12_worked_136 ?_
      rw [sub1 (by omega)]
      refine r_iload (μ := mX12_worked) (pc := 137) dX12_worked_137 rfl ?_
      refine r_aload_n (μ := mX12_worked) (pc := 139) dX12_worked_139 rfl rfl rfl ?_
      refine r_getR (μ := mX12_worked) (pc := 140) dX12_worked_140 fpX12_52 rfl rfl (by decide) (hM _ _ rfl) ?_
      refine r_iload_n (μ := mX12_worked) (pc := 143) dX12_worked_143 rfl rfl ?_
      refine r_iconst (μ := mX12_worked) (pc := 144) (v := 1) dX12_worked_144 ic_1 ?_
      refine r_isub (μ := mX12_worked) (pc := 145) dX12_worked_145 ?_
      rw [sub1 (by omega)]
      refine r_iaload (μ := mX12_worked) (pc := 146) (j := n - 2) dX12_worked_146 rfl (by rw [show n - 1 - 1 = n - 2 by omega]) (by omega) (by decide) ?_
      refine r_aload_n (μ := mX12_worked) (pc := 147) dX12_worked_147 rfl rfl rfl ?_
      refine r_getR (μ := mX12_worked) (pc := 148) dX12_worked_148 fpX12_52 rfl rfl (by decide) (hM _ _ rfl) ?_
      refine r_iload_n (μ := mX12_worked) (pc := 151) dX12_worked_151 rfl rfl ?_
      refine r_iaload (μ := mX12_worked) (pc := 152) (j := n - 1) dX12_worked_152 rfl rfl (by omega) (by decide) ?_
      refine sP3 (μ := mX12_worked) (pc := 153) (μ2 := mX12_joined) dX12_worked_153 lkX12_308 stX12_joined mwX12_joined (Nat.le_of_ble_eq_true rfl) (c_joined hs) ?_
      refine r_iastore (μ := mX12_worked) (pc := 156) (j := n - 2) dX12_worked_156 rfl (by rw [show n - 1 - 1 = n - 2 by omega]) (by omega) (by decide) ?_
      refine s_iinc (μ := mX12_worked) (pc := 157) (c := 1) (L2 := [_, _, _, _, _, _]) dX12_worked_157 rfl ic_1 (Nat.le_of_ble_eq_true rfl) (by simp only [List.all_cons, List.all_nil, catL_i, catL_r, h4, h5, Bool.and_self]) rfl ?_
      refine r_goto (μ := mX12_worked) (pc := 160) (tgt := 4) dX12_worked_160 (by decide) ?_
      exact WP.L (by rw [ed, nI_succ]) (ih (k + 1) (by omega) _ (hS2 _ _) (by rw [ed, er, upI_self, hp2, hp1]; exact pl_bin hlen hp hdp) _ _ rfl rfl)

theorem c_worked {d : Nat} {mi : MI} {mr : MR} (hM : MB mr) {t : Nat} (ht : t < 14) (hw : WFt (mi 1) t) : CP (d + 1) mX12_worked [.ref 0, .int (nI t)] shM mi mr 0 0 (PX shM mr (fun r mi2 => r = givT (mi 1) t (mi 14) ∧ SP 15 mi mi2)) := by
  refine CP.of (L := [_, _, _, _, _, _]) (by decide) rfl rfl (Nat.le_of_ble_eq_true rfl) ?_
  refine r_iconst (μ := mX12_worked) (pc := 0) (v := 0) dX12_worked_0 ic_0 ?_
  refine s_istore_n (μ := mX12_worked) (pc := 1) (L2 := [_, _, _, _, _, _]) dX12_worked_1 rfl (Nat.le_of_ble_eq_true rfl) (Nat.le_of_ble_eq_true rfl) rfl rfl ?_
  refine r_iconst (μ := mX12_worked) (pc := 2) (v := 0) dX12_worked_2 ic_0 ?_
  refine s_istore_n (μ := mX12_worked) (pc := 3) (L2 := [_, _, _, _, _, _]) dX12_worked_3 rfl (Nat.le_of_ble_eq_true rfl) (Nat.le_of_ble_eq_true rfl) rfl rfl ?_
  exact lp_worked hM ht hw.1 hw.2.1 hw.2.2.1 hw.2.2.2 (fun mi2 h => PX_i ⟨rfl, h⟩) _ 0 (Nat.zero_add _) mi (fun _ _ => rfl) (fun i hi => absurd hi (Nat.not_lt_zero i)) _ _ rfl rfl

