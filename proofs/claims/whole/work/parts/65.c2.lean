theorem na3_if {f g h : Int32} {pl : Nat} (h3 : pl < 3) : na3 f g h pl = if nI pl = 0 then f else if nI pl = 1 then g else h := by
  match pl, h3 with
  | 0, _ => rfl
  | 1, _ => rfl
  | 2, _ => rfl

theorem k_named {d : Nat} {sh : List Sh} {mi : MI} {mr : MR} {f g h x : Int32} {pl : Nat} (hp : x = nI pl) (h3 : pl < 3) : CP (d) mX8_named [.int x, .int f, .int g, .int h] sh mi mr 0 0 (PI (na3 f g h pl) sh mi mr) := by
  subst hp
  refine CP.of (L := [_, _, _, _]) (by decide) rfl rfl (Nat.le_of_ble_eq_true rfl) ?_
  refine r_iload_n (μ := mX8_named) (pc := 0) dX8_named_0 rfl rfl ?_
  refine r_if_ne (μ := mX8_named) (pc := 1) (tgt := 8) dX8_named_1 (by decide) (fun h_1 => ?_) (fun h_1 => ?_)
  · refine r_iload_n (μ := mX8_named) (pc := 8) dX8_named_8 rfl rfl ?_
    refine r_iconst (μ := mX8_named) (pc := 9) (v := 1) dX8_named_9 ic_1 ?_
    refine r_icmp_ne (μ := mX8_named) (pc := 10) (tgt := 17) dX8_named_10 (by decide) (fun h_10 => ?_) (fun h_10 => ?_)
    · refine r_iload_n (μ := mX8_named) (pc := 17) dX8_named_17 rfl rfl ?_
      exact r_iret (μ := mX8_named) (pc := 18) dX8_named_18 rfl rfl (PI_i (by rw [na3_if h3]; simp [*]))
    · refine r_iload_n (μ := mX8_named) (pc := 13) dX8_named_13 rfl rfl ?_
      refine r_goto (μ := mX8_named) (pc := 14) (tgt := 18) dX8_named_14 (by decide) ?_
      exact r_iret (μ := mX8_named) (pc := 18) dX8_named_18 rfl rfl (PI_i (by rw [na3_if h3]; simp [*]))
  · refine r_iload_n (μ := mX8_named) (pc := 4) dX8_named_4 rfl rfl ?_
    refine r_goto (μ := mX8_named) (pc := 5) (tgt := 18) dX8_named_5 (by decide) ?_
    exact r_iret (μ := mX8_named) (pc := 18) dX8_named_18 rfl rfl (PI_i (by rw [na3_if h3]; simp [*]))

theorem k_joined {d : Nat} {sh : List Sh} {mi : MI} {mr : MR} {c x y : Int32} (hc : sgOK c) : CP (d) mX8_joined [.int c, .int x, .int y] sh mi mr 0 0 (PI (jn c x y) sh mi mr) := by
  refine CP.of (L := [_, _, _]) (by decide) rfl rfl (Nat.le_of_ble_eq_true rfl) ?_
  refine r_iload_n (μ := mX8_joined) (pc := 0) dX8_joined_0 rfl rfl ?_
  rcases hc with rfl | rfl | rfl | rfl | rfl | rfl | rfl | rfl | rfl
  · refine r_look (μ := mX8_joined) (pc := 1) (tgt := 84) dX8_joined_1 (by decide) rfl (by decide) ?_
    refine r_iload_n (μ := mX8_joined) (pc := 84) dX8_joined_84 rfl rfl ?_
    refine r_iload_n (μ := mX8_joined) (pc := 85) dX8_joined_85 rfl rfl ?_
    refine r_iadd (μ := mX8_joined) (pc := 86) dX8_joined_86 ?_
    exact r_iret (μ := mX8_joined) (pc := 87) dX8_joined_87 rfl rfl (PI_i (by simp [jn, *]))
  · refine r_look (μ := mX8_joined) (pc := 1) (tgt := 88) dX8_joined_1 (by decide) rfl (by decide) ?_
    refine r_iload_n (μ := mX8_joined) (pc := 88) dX8_joined_88 rfl rfl ?_
    refine r_iload_n (μ := mX8_joined) (pc := 89) dX8_joined_89 rfl rfl ?_
    refine r_isub (μ := mX8_joined) (pc := 90) dX8_joined_90 ?_
    exact r_iret (μ := mX8_joined) (pc := 91) dX8_joined_91 rfl rfl (PI_i (by simp [jn, *]))
  · refine r_look (μ := mX8_joined) (pc := 1) (tgt := 92) dX8_joined_1 (by decide) rfl (by decide) ?_
    refine r_iload_n (μ := mX8_joined) (pc := 92) dX8_joined_92 rfl rfl ?_
    refine r_iload_n (μ := mX8_joined) (pc := 93) dX8_joined_93 rfl rfl ?_
    refine r_imul (μ := mX8_joined) (pc := 94) dX8_joined_94 ?_
    exact r_iret (μ := mX8_joined) (pc := 95) dX8_joined_95 rfl rfl (PI_i (by simp [jn, *]))
  · refine r_look (μ := mX8_joined) (pc := 1) (tgt := 96) dX8_joined_1 (by decide) rfl (by decide) ?_
    refine r_iload_n (μ := mX8_joined) (pc := 96) dX8_joined_96 rfl rfl ?_
    refine r_if_ne (μ := mX8_joined) (pc := 97) (tgt := 104) dX8_joined_97 (by decide) (fun h_97 => ?_) (fun h_97 => ?_)
    · refine r_iload_n (μ := mX8_joined) (pc := 104) dX8_joined_104 rfl rfl ?_
      refine r_iload_n (μ := mX8_joined) (pc := 105) dX8_joined_105 rfl rfl ?_
      refine r_idiv (μ := mX8_joined) (pc := 106) dX8_joined_106 h_97 ?_
      exact r_iret (μ := mX8_joined) (pc := 107) dX8_joined_107 rfl rfl (PI_i (by first | (simp [jn, h_97]; done) | (show _ = (if y = 0 then 0 else if y = -1 then -x else x / y); rw [if_neg h_97]; by_cases hm : y = -1; (· rw [if_pos hm, hm, div_m1]); (· rw [if_neg hm]))))
    · refine r_iconst (μ := mX8_joined) (pc := 100) (v := 0) dX8_joined_100 ic_0 ?_
      refine r_goto (μ := mX8_joined) (pc := 101) (tgt := 107) dX8_joined_101 (by decide) ?_
      exact r_iret (μ := mX8_joined) (pc := 107) dX8_joined_107 rfl rfl (PI_i (by first | (simp [jn, h_97]; done) | (show _ = (if y = 0 then 0 else if y = -1 then -x else x / y); rw [if_neg h_97]; by_cases hm : y = -1; (· rw [if_pos hm, hm, div_m1]); (· rw [if_neg hm]))))
  · refine r_look (μ := mX8_joined) (pc := 1) (tgt := 108) dX8_joined_1 (by decide) rfl (by decide) ?_
    refine r_iload_n (μ := mX8_joined) (pc := 108) dX8_joined_108 rfl rfl ?_
    refine r_iload_n (μ := mX8_joined) (pc := 109) dX8_joined_109 rfl rfl ?_
    refine r_icmp_ge (μ := mX8_joined) (pc := 110) (tgt := 117) dX8_joined_110 (by decide) (fun h_110 => ?_) (fun h_110 => ?_)
    · refine r_iconst (μ := mX8_joined) (pc := 117) (v := 0) dX8_joined_117 ic_0 ?_
      exact r_iret (μ := mX8_joined) (pc := 118) dX8_joined_118 rfl rfl (PI_i (by simp [jn, *]))
    · refine r_iconst (μ := mX8_joined) (pc := 113) (v := 1) dX8_joined_113 ic_1 ?_
      refine r_goto (μ := mX8_joined) (pc := 114) (tgt := 118) dX8_joined_114 (by decide) ?_
      exact r_iret (μ := mX8_joined) (pc := 118) dX8_joined_118 rfl rfl (PI_i (by simp [jn, *]))
  · refine r_look (μ := mX8_joined) (pc := 1) (tgt := 119) dX8_joined_1 (by decide) rfl (by decide) ?_
    refine r_iload_n (μ := mX8_joined) (pc := 119) dX8_joined_119 rfl rfl ?_
    refine r_iload_n (μ := mX8_joined) (pc := 120) dX8_joined_120 rfl rfl ?_
    refine r_icmp_ne (μ := mX8_joined) (pc := 121) (tgt := 128) dX8_joined_121 (by decide) (fun h_121 => ?_) (fun h_121 => ?_)
    · refine r_iconst (μ := mX8_joined) (pc := 128) (v := 0) dX8_joined_128 ic_0 ?_
      exact r_iret (μ := mX8_joined) (pc := 129) dX8_joined_129 rfl rfl (PI_i (by simp [jn, *]))
    · refine r_iconst (μ := mX8_joined) (pc := 124) (v := 1) dX8_joined_124 ic_1 ?_
      refine r_goto (μ := mX8_joined) (pc := 125) (tgt := 129) dX8_joined_125 (by decide) ?_
      exact r_iret (μ := mX8_joined) (pc := 129) dX8_joined_129 rfl rfl (PI_i (by simp [jn, *]))
  · refine r_look (μ := mX8_joined) (pc := 1) (tgt := 130) dX8_joined_1 (by decide) rfl (by decide) ?_
    refine r_iload_n (μ := mX8_joined) (pc := 130) dX8_joined_130 rfl rfl ?_
    refine r_iload_n (μ := mX8_joined) (pc := 131) dX8_joined_131 rfl rfl ?_
    refine r_icmp_le (μ := mX8_joined) (pc := 132) (tgt := 139) dX8_joined_132 (by decide) (fun h_132 => ?_) (fun h_132 => ?_)
    · refine r_iconst (μ := mX8_joined) (pc := 139) (v := 0) dX8_joined_139 ic_0 ?_
      exact r_iret (μ := mX8_joined) (pc := 140) dX8_joined_140 rfl rfl (PI_i (by simp [jn, *]))
    · refine r_iconst (μ := mX8_joined) (pc := 135) (v := 1) dX8_joined_135 ic_1 ?_
      refine r_goto (μ := mX8_joined) (pc := 136) (tgt := 140) dX8_joined_136 (by decide) ?_
      exact r_iret (μ := mX8_joined) (pc := 140) dX8_joined_140 rfl rfl (PI_i (by simp [jn, *]))
  · refine r_look (μ := mX8_joined) (pc := 1) (tgt := 141) dX8_joined_1 (by decide) rfl (by decide) ?_
    refine r_iload_n (μ := mX8_joined) (pc := 141) dX8_joined_141 rfl rfl ?_
    refine r_if_eq (μ := mX8_joined) (pc := 142) (tgt := 153) dX8_joined_142 (by decide) (fun h_142 => ?_) (fun h_142 => ?_)
    · refine r_iconst (μ := mX8_joined) (pc := 153) (v := 0) dX8_joined_153 ic_0 ?_
      exact r_iret (μ := mX8_joined) (pc := 154) dX8_joined_154 rfl rfl (PI_i (by simp [jn, *]))
    · refine r_iload_n (μ := mX8_joined) (pc := 145) dX8_joined_145 rfl rfl ?_
      refine r_if_eq (μ := mX8_joined) (pc := 146) (tgt := 153) dX8_joined_146 (by decide) (fun h_146 => ?_) (fun h_146 => ?_)
      · refine r_iconst (μ := mX8_joined) (pc := 153) (v := 0) dX8_joined_153 ic_0 ?_
        exact r_iret (μ := mX8_joined) (pc := 154) dX8_joined_154 rfl rfl (PI_i (by simp [jn, *]))
      · refine r_iconst (μ := mX8_joined) (pc := 149) (v := 1) dX8_joined_149 ic_1 ?_
        refine r_goto (μ := mX8_joined) (pc := 150) (tgt := 154) dX8_joined_150 (by decide) ?_
        exact r_iret (μ := mX8_joined) (pc := 154) dX8_joined_154 rfl rfl (PI_i (by simp [jn, *]))
  · refine r_look (μ := mX8_joined) (pc := 1) (tgt := 155) dX8_joined_1 (by decide) rfl (by decide) ?_
    refine r_iload_n (μ := mX8_joined) (pc := 155) dX8_joined_155 rfl rfl ?_
    refine r_if_ne (μ := mX8_joined) (pc := 156) (tgt := 163) dX8_joined_156 (by decide) (fun h_156 => ?_) (fun h_156 => ?_)
    · refine r_iconst (μ := mX8_joined) (pc := 163) (v := 1) dX8_joined_163 ic_1 ?_
      refine r_goto (μ := mX8_joined) (pc := 164) (tgt := 168) dX8_joined_164 (by decide) ?_
      exact r_iret (μ := mX8_joined) (pc := 168) dX8_joined_168 rfl rfl (PI_i (by simp [jn, *]))
    · refine r_iload_n (μ := mX8_joined) (pc := 159) dX8_joined_159 rfl rfl ?_
      refine r_if_eq (μ := mX8_joined) (pc := 160) (tgt := 167) dX8_joined_160 (by decide) (fun h_160 => ?_) (fun h_160 => ?_)
      · refine r_iconst (μ := mX8_joined) (pc := 167) (v := 0) dX8_joined_167 ic_0 ?_
        exact r_iret (μ := mX8_joined) (pc := 168) dX8_joined_168 rfl rfl (PI_i (by simp [jn, *]))
      · refine r_iconst (μ := mX8_joined) (pc := 163) (v := 1) dX8_joined_163 ic_1 ?_
        refine r_goto (μ := mX8_joined) (pc := 164) (tgt := 168) dX8_joined_164 (by decide) ?_
        exact r_iret (μ := mX8_joined) (pc := 168) dX8_joined_168 rfl rfl (PI_i (by simp [jn, *]))

theorem lp_gives {d : Nat} {sh : List Sh} {mi : MI} {mr : MR} {Q : QT} {a cc st c kt : Nat} {s : Rw} {t : Nat} {f g h : Int32} {nm : Rw} (hA : sh[a]? = some (12, 3)) (hC : sh[cc]? = some (0, c)) (hK : sh[st]? = some (0, 96)) (hcc : mr a 2 = some cc) (hne : cc ≠ st) (hc96 : c ≤ 96) (hd1 : 1 ≤ depT s t c) (hw : ∀ k, k < c → stOK s t k) (hcd : ∀ k, k < c → cdR kt (stW s t k) (stV s t k) (mi cc k)) (hnm : ∀ pl, pl < nlen kt → nm (nmL kt pl) = na3 f g h pl) (hq : ∀ mi2, SP st mi mi2 → Q (some (.int ((runL s t nm c).getD 0 0))) sh mi2 mr) :
    ∀ (j k : Nat), k + j = c → ∀ mi2 : MI, SP st mi mi2 → (∀ i, i < depT s t k → mi2 st i = (runL s t nm k).getD i 0) →
      WP (d + 1) mX8_gives 6 [.ref a, .int f, .int g, .int h, .ref st, .int (nI (depT s t k)), .int (nI k)] [] sh mi2 mr 0 0 Q := by
  intro j
  induction j with
  | zero =>
    intro k hk mi2 hS hp
    obtain rfl : k = c := by omega
    have hdk := depT_le s t k
    refine r_iload (μ := mX8_gives) (pc := 6) dX8_gives_6 rfl ?_
    refine r_aload_n (μ := mX8_gives) (pc := 8) dX8_gives_8 rfl rfl rfl ?_
    refine r_getR (μ := mX8_gives) (pc := 9) dX8_gives_9 fpX8_16 rfl hA (by decide) hcc ?_
    refine r_alen (μ := mX8_gives) (pc := 12) dX8_gives_12 (by decide) hC ?_
    refine r_icmp_ge (μ := mX8_gives) (pc := 13) (tgt := 179) dX8_gives_13 (by decide) (fun h_13 => ?_) (fun h_13 => absurd (nI_le (Nat.le_refl _) (by omega)) h_13)
    refine r_iload (μ := mX8_gives) (pc := 179) dX8_gives_179 rfl ?_
    refine r_if_le (μ := mX8_gives) (pc := 181) (tgt := 191) dX8_gives_181 (by decide) (fun h_181 => absurd h_181 (fun z => absurd z (nI_nle (n := depT s t k) (by omega) (by omega)))) (fun h_181 => ?_)
    refine r_aload (μ := mX8_gives) (pc := 184) dX8_gives_184 rfl rfl ?_
    refine r_iconst (μ := mX8_gives) (pc := 186) (v := 0) dX8_gives_186 ic_0 ?_
    refine r_iaload (μ := mX8_gives) (pc := 187) (j := 0) dX8_gives_187 hK rfl (by decide) (by decide) ?_
    refine r_goto (μ := mX8_gives) (pc := 188) (tgt := 192) dX8_gives_188 (by decide) ?_
    exact r_iret (μ := mX8_gives) (pc := 192) dX8_gives_192 rfl rfl (by rw [hp 0 (by omega)]; exact hq mi2 hS)
  | succ j ih =>
    intro k hk mi2 hS hp
    have ec : mi2 cc = mi cc := hS cc hne
    have hcr := hcd k (by omega)
    have hlen := runL_len s t nm k
    have hdk := depT_le s t k
    have hS2 : ∀ (i : Nat) (x : Int32), SP st mi (upI mi2 st i x) := fun i x a ha => (upI_ne ha).trans (hS a ha)
    rcases hcr with ⟨h1, hc1, jv, hjv, hv⟩ | ⟨h1, pl, hpl, hc1, hv⟩ | ⟨h1, hc1, hsg⟩
    · have ed : depT s t (k + 1) = depT s t k + 1 := by simp only [depT, h1]; rfl
      have er : runL s t nm (k + 1) = runL s t nm k ++ [stV s t k] := by simp only [runL, stL, h1]; rfl
      generalize hn : depT s t k = n at *
      have hcv : mi2 cc k = nI jv := by rw [ec, hc1, hv]
      refine r_iload (μ := mX8_gives) (pc := 6) dX8_gives_6 rfl ?_
      refine r_aload_n (μ := mX8_gives) (pc := 8) dX8_gives_8 rfl rfl rfl ?_
      refine r_getR (μ := mX8_gives) (pc := 9) dX8_gives_9 fpX8_16 rfl hA (by decide) hcc ?_
      refine r_alen (μ := mX8_gives) (pc := 12) dX8_gives_12 (by decide) hC ?_
      refine r_icmp_ge (μ := mX8_gives) (pc := 13) (tgt := 179) dX8_gives_13 (by decide) (fun h_13 => absurd h_13 (nI_ge (by omega) (by omega))) (fun h_13 => ?_)
      refine r_aload_n (μ := mX8_gives) (pc := 16) dX8_gives_16 rfl rfl rfl ?_
      refine r_getR (μ := mX8_gives) (pc := 17) dX8_gives_17 fpX8_16 rfl hA (by decide) hcc ?_
      refine r_iload (μ := mX8_gives) (pc := 20) dX8_gives_20 rfl ?_
      refine r_iaload (μ := mX8_gives) (pc := 22) (j := k) dX8_gives_22 hC rfl (by omega) (by omega) ?_
      rw [hcv]
      refine r_if_lt (μ := mX8_gives) (pc := 23) (tgt := 87) dX8_gives_23 (by decide) (fun h_23 => absurd h_23 (fun z => absurd z (nI_pos (by omega)))) (fun h_23 => ?_)
      refine r_iload (μ := mX8_gives) (pc := 26) dX8_gives_26 rfl ?_
      refine r_aload (μ := mX8_gives) (pc := 28) dX8_gives_28 rfl rfl ?_
      refine r_alen (μ := mX8_gives) (pc := 30) dX8_gives_30 (by decide) hK ?_
      refine r_icmp_lt (μ := mX8_gives) (pc := 31) (tgt := 36) dX8_gives_31 (by decide) (fun h_31 => ?_) (fun h_31 => absurd (nI_lt (b := 96) (by omega) (by omega)) h_31)
      refine r_aload (μ := mX8_gives) (pc := 36) dX8_gives_36 rfl rfl ?_
      refine r_iload (μ := mX8_gives) (pc := 38) dX8_gives_38 rfl ?_
      refine r_aload_n (μ := mX8_gives) (pc := 40) dX8_gives_40 rfl rfl rfl ?_
      refine r_getR (μ := mX8_gives) (pc := 41) dX8_gives_41 fpX8_16 rfl hA (by decide) hcc ?_
      refine r_iload (μ := mX8_gives) (pc := 44) dX8_gives_44 rfl ?_
      refine r_iaload (μ := mX8_gives) (pc := 46) (j := k) dX8_gives_46 hC rfl (by omega) (by omega) ?_
      rw [hcv]
      refine r_sipush (μ := mX8_gives) (pc := 47) (v := 10000) dX8_gives_47 sp_10000 ?_
      refine r_icmp_ge (μ := mX8_gives) (pc := 50) (tgt := 63) dX8_gives_50 (by decide) (fun h_50 => absurd h_50 (nI_ge (b := 10000) (by omega) (by omega))) (fun h_50 => ?_)
      refine r_aload_n (μ := mX8_gives) (pc := 53) dX8_gives_53 rfl rfl rfl ?_
      refine r_getR (μ := mX8_gives) (pc := 54) dX8_gives_54 fpX8_16 rfl hA (by decide) hcc ?_
      refine r_iload (μ := mX8_gives) (pc := 57) dX8_gives_57 rfl ?_
      refine r_iaload (μ := mX8_gives) (pc := 59) (j := k) dX8_gives_59 hC rfl (by omega) (by omega) ?_
      rw [hcv]
      refine r_goto (μ := mX8_gives) (pc := 60) (tgt := 80) dX8_gives_60 (by decide) ?_
      refine r_iastore (μ := mX8_gives) (pc := 80) (j := n) dX8_gives_80 hK rfl (by omega) (by decide) ?_
      refine s_iinc (μ := mX8_gives) (pc := 81) (c := 1) (L2 := [_, _, _, _, _, _, _]) dX8_gives_81 rfl ic_1 (Nat.le_of_ble_eq_true rfl) rfl rfl ?_
      refine r_goto (μ := mX8_gives) (pc := 84) (tgt := 173) dX8_gives_84 (by decide) ?_
      refine s_iinc (μ := mX8_gives) (pc := 173) (c := 1) (L2 := [_, _, _, _, _, _, _]) dX8_gives_173 rfl ic_1 (Nat.le_of_ble_eq_true rfl) rfl rfl ?_
      refine r_goto (μ := mX8_gives) (pc := 176) (tgt := 6) dX8_gives_176 (by decide) ?_
      exact WP.L (by rw [ed, nI_succ, nI_succ]) (ih (k + 1) (by omega) _ (hS2 _ _) (by rw [ed, er, upI_self, hv]; exact pl_push hlen hp))
    · have hp3 : pl < 3 := Nat.lt_of_lt_of_le hpl (by unfold nlen; split <;> decide)
      have ed : depT s t (k + 1) = depT s t k + 1 := by simp only [depT, h1]; rfl
      have er : runL s t nm (k + 1) = runL s t nm k ++ [na3 f g h pl] := by
        simp only [runL, stL, h1, hv]
        rw [nI_clamp (by unfold nmL; split <;> decide), ← hnm pl hpl]
        rfl
      generalize hn : depT s t k = n at *
      have hcv : mi2 cc k = nI (10000 + pl) := by rw [ec, hc1]
      refine r_iload (μ := mX8_gives) (pc := 6) dX8_gives_6 rfl ?_
      refine r_aload_n (μ := mX8_gives) (pc := 8) dX8_gives_8 rfl rfl rfl ?_
      refine r_getR (μ := mX8_gives) (pc := 9) dX8_gives_9 fpX8_16 rfl hA (by decide) hcc ?_
      refine r_alen (μ := mX8_gives) (pc := 12) dX8_gives_12 (by decide) hC ?_
      refine r_icmp_ge (μ := mX8_gives) (pc := 13) (tgt := 179) dX8_gives_13 (by decide) (fun h_13 => absurd h_13 (nI_ge (by omega) (by omega))) (fun h_13 => ?_)
      refine r_aload_n (μ := mX8_gives) (pc := 16) dX8_gives_16 rfl rfl rfl ?_
      refine r_getR (μ := mX8_gives) (pc := 17) dX8_gives_17 fpX8_16 rfl hA (by decide) hcc ?_
      refine r_iload (μ := mX8_gives) (pc := 20) dX8_gives_20 rfl ?_
      refine r_iaload (μ := mX8_gives) (pc := 22) (j := k) dX8_gives_22 hC rfl (by omega) (by omega) ?_
      rw [hcv]
      refine r_if_lt (μ := mX8_gives) (pc := 23) (tgt := 87) dX8_gives_23 (by decide) (fun h_23 => absurd h_23 (fun z => absurd z (nI_pos (by omega)))) (fun h_23 => ?_)
      refine r_iload (μ := mX8_gives) (pc := 26) dX8_gives_26 rfl ?_
      refine r_aload (μ := mX8_gives) (pc := 28) dX8_gives_28 rfl rfl ?_
      refine r_alen (μ := mX8_gives) (pc := 30) dX8_gives_30 (by decide) hK ?_
      refine r_icmp_lt (μ := mX8_gives) (pc := 31) (tgt := 36) dX8_gives_31 (by decide) (fun h_31 => ?_) (fun h_31 => absurd (nI_lt (b := 96) (by omega) (by omega)) h_31)
      refine r_aload (μ := mX8_gives) (pc := 36) dX8_gives_36 rfl rfl ?_
      refine r_iload (μ := mX8_gives) (pc := 38) dX8_gives_38 rfl ?_
      refine r_aload_n (μ := mX8_gives) (pc := 40) dX8_gives_40 rfl rfl rfl ?_
      refine r_getR (μ := mX8_gives) (pc := 41) dX8_gives_41 fpX8_16 rfl hA (by decide) hcc ?_
      refine r_iload (μ := mX8_gives) (pc := 44) dX8_gives_44 rfl ?_
      refine r_iaload (μ := mX8_gives) (pc := 46) (j := k) dX8_gives_46 hC rfl (by omega) (by omega) ?_
      rw [hcv]
      refine r_sipush (μ := mX8_gives) (pc := 47) (v := 10000) dX8_gives_47 sp_10000 ?_
      refine r_icmp_ge (μ := mX8_gives) (pc := 50) (tgt := 63) dX8_gives_50 (by decide) (fun h_50 => ?_) (fun h_50 => absurd (nI_le (a := 10000) (by omega) (by omega)) h_50)
      refine r_aload_n (μ := mX8_gives) (pc := 63) dX8_gives_63 rfl rfl rfl ?_
      refine r_getR (μ := mX8_gives) (pc := 64) dX8_gives_64 fpX8_16 rfl hA (by decide) hcc ?_
      refine r_iload (μ := mX8_gives) (pc := 67) dX8_gives_67 rfl ?_
      refine r_iaload (μ := mX8_gives) (pc := 69) (j := k) dX8_gives_69 hC rfl (by omega) (by omega) ?_
      rw [hcv]
      refine r_sipush (μ := mX8_gives) (pc := 70) (v := 10000) dX8_gives_70 sp_10000 ?_
      refine r_isub (μ := mX8_gives) (pc := 73) dX8_gives_73 ?_
      refine r_iload_n (μ := mX8_gives) (pc := 74) dX8_gives_74 rfl rfl ?_
      refine r_iload_n (μ := mX8_gives) (pc := 75) dX8_gives_75 rfl rfl ?_
      refine r_iload_n (μ := mX8_gives) (pc := 76) dX8_gives_76 rfl rfl ?_
      refine sP4 (μ := mX8_gives) (pc := 77) (μ2 := mX8_named) dX8_gives_77 lkX8_20 stX8_named mwX8_named (Nat.le_of_ble_eq_true rfl) (k_named (pl := pl) (by rw [show (10000 : Int32) = nI 10000 from rfl, pk_sub (by omega), show 10000 + pl - 10000 = pl by omega]) hp3) ?_
      refine r_iastore (μ := mX8_gives) (pc := 80) (j := n) dX8_gives_80 hK rfl (by omega) (by decide) ?_
      refine s_iinc (μ := mX8_gives) (pc := 81) (c := 1) (L2 := [_, _, _, _, _, _, _]) dX8_gives_81 rfl ic_1 (Nat.le_of_ble_eq_true rfl) rfl rfl ?_
      refine r_goto (μ := mX8_gives) (pc := 84) (tgt := 173) dX8_gives_84 (by decide) ?_
      refine s_iinc (μ := mX8_gives) (pc := 173) (c := 1) (L2 := [_, _, _, _, _, _, _]) dX8_gives_173 rfl ic_1 (Nat.le_of_ble_eq_true rfl) rfl rfl ?_
      refine r_goto (μ := mX8_gives) (pc := 176) (tgt := 6) dX8_gives_176 (by decide) ?_
      exact WP.L (by rw [ed, nI_succ, nI_succ]) (ih (k + 1) (by omega) _ (hS2 _ _) (by rw [ed, er, upI_self]; exact pl_push hlen hp))
    · have hcv : mi2 cc k = -stV s t k := by rw [ec, hc1]
      rcases hsg with hv | hs
      · have hdp : 1 ≤ depT s t k := by
          rcases hw k (by omega) with z | ⟨z, -⟩ | ⟨-, ⟨-, z⟩ | ⟨z, -⟩⟩
          · rw [h1] at z; cases z
          · rw [h1] at z; cases z
          · exact z
          · rw [hv] at z; exact absurd z (by unfold sgOK; decide)
        rw [hv] at hcv
        have ed : depT s t (k + 1) = depT s t k := by simp only [depT, h1, hv]; rfl
        have er : runL s t nm (k + 1) = (runL s t nm k).set (depT s t k - 1) (ntI ((runL s t nm k).getD (depT s t k - 1) 0)) := by simp only [runL, stL, h1, hv, hlen]; rfl
        generalize hn : depT s t k = n at *
        have hpn := hp (n - 1) (by omega)
        refine r_iload (μ := mX8_gives) (pc := 6) dX8_gives_6 rfl ?_
        refine r_aload_n (μ := mX8_gives) (pc := 8) dX8_gives_8 rfl rfl rfl ?_
        refine r_getR (μ := mX8_gives) (pc := 9) dX8_gives_9 fpX8_16 rfl hA (by decide) hcc ?_
        refine r_alen (μ := mX8_gives) (pc := 12) dX8_gives_12 (by decide) hC ?_
        refine r_icmp_ge (μ := mX8_gives) (pc := 13) (tgt := 179) dX8_gives_13 (by decide) (fun h_13 => absurd h_13 (nI_ge (by omega) (by omega))) (fun h_13 => ?_)
        refine r_aload_n (μ := mX8_gives) (pc := 16) dX8_gives_16 rfl rfl rfl ?_
        refine r_getR (μ := mX8_gives) (pc := 17) dX8_gives_17 fpX8_16 rfl hA (by decide) hcc ?_
        refine r_iload (μ := mX8_gives) (pc := 20) dX8_gives_20 rfl ?_
        refine r_iaload (μ := mX8_gives) (pc := 22) (j := k) dX8_gives_22 hC rfl (by omega) (by omega) ?_
        rw [hcv]
        refine r_if_lt (μ := mX8_gives) (pc := 23) (tgt := 87) dX8_gives_23 (by decide) (fun h_23 => ?_) (fun h_23 => absurd (by decide) h_23)
        refine r_aload_n (μ := mX8_gives) (pc := 87) dX8_gives_87 rfl rfl rfl ?_
        refine r_getR (μ := mX8_gives) (pc := 88) dX8_gives_88 fpX8_16 rfl hA (by decide) hcc ?_
        refine r_iload (μ := mX8_gives) (pc := 91) dX8_gives_91 rfl ?_
        refine r_iaload (μ := mX8_gives) (pc := 93) (j := k) dX8_gives_93 hC rfl (by omega) (by omega) ?_
        rw [hcv]
        refine r_bipush (μ := mX8_gives) (pc := 94) (v := -33) dX8_gives_94 bp_m33 ?_
        refine r_icmp_ne (μ := mX8_gives) (pc := 96) (tgt := 132) dX8_gives_96 (by decide) (fun h_96 => absurd rfl h_96) (fun h_96 => ?_)
        refine r_iload (μ := mX8_gives) (pc := 99) dX8_gives_99 rfl ?_
        refine r_iconst (μ := mX8_gives) (pc := 101) (v := 1) dX8_gives_101 ic_1 ?_
        refine r_icmp_ge (μ := mX8_gives) (pc := 102) (tgt := 107) dX8_gives_102 (by decide) (fun h_102 => ?_) (fun h_102 => absurd (nI_le (a := 1) (by omega) (by omega)) h_102)
        refine r_aload (μ := mX8_gives) (pc := 107) dX8_gives_107 rfl rfl ?_
        refine r_iload (μ := mX8_gives) (pc := 109) dX8_gives_109 rfl ?_
        refine r_iconst (μ := mX8_gives) (pc := 111) (v := 1) dX8_gives_111 ic_1 ?_
        refine r_isub (μ := mX8_gives) (pc := 112) dX8_gives_112 ?_
        rw [sub1 hdp]
        refine r_aload (μ := mX8_gives) (pc := 113) dX8_gives_113 rfl rfl ?_
        refine r_iload (μ := mX8_gives) (pc := 115) dX8_gives_115 rfl ?_
        refine r_iconst (μ := mX8_gives) (pc := 117) (v := 1) dX8_gives_117 ic_1 ?_
        refine r_isub (μ := mX8_gives) (pc := 118) dX8_gives_118 ?_
        rw [sub1 hdp]
        refine r_iaload (μ := mX8_gives) (pc := 119) (j := n - 1) dX8_gives_119 hK rfl (by omega) (by decide) ?_
        refine r_if_ne (μ := mX8_gives) (pc := 120) (tgt := 127) dX8_gives_120 (by decide) (fun h_120 => ?_) (fun h_120 => ?_)
        · have hz : ntI (mi2 st (n - 1)) = 0 := by simp [ntI, h_120]
          refine r_iconst (μ := mX8_gives) (pc := 127) (v := 0) dX8_gives_127 ic_0 ?_
          refine r_iastore (μ := mX8_gives) (pc := 128) (j := n - 1) dX8_gives_128 hK rfl (by omega) (by decide) ?_
          refine r_goto (μ := mX8_gives) (pc := 129) (tgt := 173) dX8_gives_129 (by decide) ?_
          refine s_iinc (μ := mX8_gives) (pc := 173) (c := 1) (L2 := [_, _, _, _, _, _, _]) dX8_gives_173 rfl ic_1 (Nat.le_of_ble_eq_true rfl) rfl rfl ?_
          refine r_goto (μ := mX8_gives) (pc := 176) (tgt := 6) dX8_gives_176 (by decide) ?_
          exact WP.L (by rw [ed, nI_succ]) (ih (k + 1) (by omega) _ (hS2 _ _) (by rw [ed, er, upI_self, ← hpn, hz]; exact pl_set hlen hp (by omega)))
        · have hz : ntI (mi2 st (n - 1)) = 1 := by simp [ntI, h_120]
          refine r_iconst (μ := mX8_gives) (pc := 123) (v := 1) dX8_gives_123 ic_1 ?_
          refine r_goto (μ := mX8_gives) (pc := 124) (tgt := 128) dX8_gives_124 (by decide) ?_
          refine r_iastore (μ := mX8_gives) (pc := 128) (j := n - 1) dX8_gives_128 hK rfl (by omega) (by decide) ?_
          refine r_goto (μ := mX8_gives) (pc := 129) (tgt := 173) dX8_gives_129 (by decide) ?_
          refine s_iinc (μ := mX8_gives) (pc := 173) (c := 1) (L2 := [_, _, _, _, _, _, _]) dX8_gives_173 rfl ic_1 (Nat.le_of_ble_eq_true rfl) rfl rfl ?_
          refine r_goto (μ := mX8_gives) (pc := 176) (tgt := 6) dX8_gives_176 (by decide) ?_
          exact WP.L (by rw [ed, nI_succ]) (ih (k + 1) (by omega) _ (hS2 _ _) (by rw [ed, er, upI_self, ← hpn, hz]; exact pl_set hlen hp (by omega)))
      · have hv : ¬ stV s t k = 33 := by intro q; rw [q] at hs; exact absurd hs (by unfold sgOK; decide)
        have hdp : 2 ≤ depT s t k := by
          rcases hw k (by omega) with z | ⟨z, -⟩ | ⟨-, ⟨z, -⟩ | ⟨-, z⟩⟩
          · rw [h1] at z; cases z
          · rw [h1] at z; cases z
          · exact absurd z hv
          · exact z
        have ng : ∀ c : Int32, sgOK c → -c < 0 ∧ ¬ -c = -33 := by
          intro c hc
          rcases hc with rfl | rfl | rfl | rfl | rfl | rfl | rfl | rfl | rfl <;> decide
        have ed : depT s t (k + 1) = depT s t k - 1 := by simp only [depT, h1, if_neg hv]; rfl
        have er : runL s t nm (k + 1) = (runL s t nm k).dropLast.set (depT s t k - 2) (jn (stV s t k) ((runL s t nm k).getD (depT s t k - 2) 0) ((runL s t nm k).getD (depT s t k - 1) 0)) := by simp only [runL, stL, h1, if_neg hv, hlen]; rfl
        generalize hn : depT s t k = n at *
        have hp1 := hp (n - 1) (by omega)
        have hp2 := hp (n - 2) (by omega)
        refine r_iload (μ := mX8_gives) (pc := 6) dX8_gives_6 rfl ?_
        refine r_aload_n (μ := mX8_gives) (pc := 8) dX8_gives_8 rfl rfl rfl ?_
        refine r_getR (μ := mX8_gives) (pc := 9) dX8_gives_9 fpX8_16 rfl hA (by decide) hcc ?_
        refine r_alen (μ := mX8_gives) (pc := 12) dX8_gives_12 (by decide) hC ?_
        refine r_icmp_ge (μ := mX8_gives) (pc := 13) (tgt := 179) dX8_gives_13 (by decide) (fun h_13 => absurd h_13 (nI_ge (by omega) (by omega))) (fun h_13 => ?_)
        refine r_aload_n (μ := mX8_gives) (pc := 16) dX8_gives_16 rfl rfl rfl ?_
        refine r_getR (μ := mX8_gives) (pc := 17) dX8_gives_17 fpX8_16 rfl hA (by decide) hcc ?_
        refine r_iload (μ := mX8_gives) (pc := 20) dX8_gives_20 rfl ?_
        refine r_iaload (μ := mX8_gives) (pc := 22) (j := k) dX8_gives_22 hC rfl (by omega) (by omega) ?_
        rw [hcv]
        refine r_if_lt (μ := mX8_gives) (pc := 23) (tgt := 87) dX8_gives_23 (by decide) (fun h_23 => ?_) (fun h_23 => absurd (ng _ hs).1 h_23)
        refine r_aload_n (μ := mX8_gives) (pc := 87) dX8_gives_87 rfl rfl rfl ?_
        refine r_getR (μ := mX8_gives) (pc := 88) dX8_gives_88 fpX8_16 rfl hA (by decide) hcc ?_
        refine r_iload (μ := mX8_gives) (pc := 91) dX8_gives_91 rfl ?_
        refine r_iaload (μ := mX8_gives) (pc := 93) (j := k) dX8_gives_93 hC rfl (by omega) (by omega) ?_
        rw [hcv]
        refine r_bipush (μ := mX8_gives) (pc := 94) (v := -33) dX8_gives_94 bp_m33 ?_
        refine r_icmp_ne (μ := mX8_gives) (pc := 96) (tgt := 132) dX8_gives_96 (by decide) (fun h_96 => ?_) (fun h_96 => absurd h_96 (ng _ hs).2)
        refine r_iload (μ := mX8_gives) (pc := 132) dX8_gives_132 rfl ?_
        refine r_iconst (μ := mX8_gives) (pc := 134) (v := 2) dX8_gives_134 ic_2 ?_
        refine r_icmp_ge (μ := mX8_gives) (pc := 135) (tgt := 140) dX8_gives_135 (by decide) (fun h_135 => ?_) (fun h_135 => absurd (nI_le (a := 2) (by omega) (by omega)) h_135)
        refine s_iinc (μ := mX8_gives) (pc := 140) (c := -1) (L2 := [_, _, _, _, _, _, _]) dX8_gives_140 rfl ic_m1 (Nat.le_of_ble_eq_true rfl) rfl rfl ?_
        rw [subm1 (by omega)]
        refine r_aload (μ := mX8_gives) (pc := 143) dX8_gives_143 rfl rfl ?_
        refine r_iload (μ := mX8_gives) (pc := 145) dX8_gives_145 rfl ?_
        refine r_iconst (μ := mX8_gives) (pc := 147) (v := 1) dX8_gives_147 ic_1 ?_
        refine r_isub (μ := mX8_gives) (pc := 148) dX8_gives_148 ?_
        rw [sub1 (by omega)]
        refine r_aload_n (μ := mX8_gives) (pc := 149) dX8_gives_149 rfl rfl rfl ?_
        refine r_getR (μ := mX8_gives) (pc := 150) dX8_gives_150 fpX8_16 rfl hA (by decide) hcc ?_
        refine r_iload (μ := mX8_gives) (pc := 153) dX8_gives_153 rfl ?_
        refine r_iaload (μ := mX8_gives) (pc := 155) (j := k) dX8_gives_155 hC rfl (by omega) (by omega) ?_
        rw [hcv]
        refine r_ineg (μ := mX8_gives) (pc := 156) dX8_gives_156 ?_
        rw [Int32.neg_neg]
        refine r_aload (μ := mX8_gives) (pc := 157) dX8_gives_157 rfl rfl ?_
        refine r_iload (μ := mX8_gives) (pc := 159) dX8_gives_159 rfl ?_
        refine r_iconst (μ := mX8_gives) (pc := 161) (v := 1) dX8_gives_161 ic_1 ?_
        refine r_isub (μ := mX8_gives) (pc := 162) dX8_gives_162 ?_
        rw [sub1 (by omega)]
        refine r_iaload (μ := mX8_gives) (pc := 163) (j := n - 2) dX8_gives_163 hK (by rw [show n - 1 - 1 = n - 2 by omega]) (by omega) (by decide) ?_
        refine r_aload (μ := mX8_gives) (pc := 164) dX8_gives_164 rfl rfl ?_
        refine r_iload (μ := mX8_gives) (pc := 166) dX8_gives_166 rfl ?_
        refine r_iaload (μ := mX8_gives) (pc := 168) (j := n - 1) dX8_gives_168 hK rfl (by omega) (by decide) ?_
        refine sP3 (μ := mX8_gives) (pc := 169) (μ2 := mX8_joined) dX8_gives_169 lkX8_24 stX8_joined mwX8_joined (Nat.le_of_ble_eq_true rfl) (k_joined hs) ?_
        refine r_iastore (μ := mX8_gives) (pc := 172) (j := n - 2) dX8_gives_172 hK (by rw [show n - 1 - 1 = n - 2 by omega]) (by omega) (by decide) ?_
        refine s_iinc (μ := mX8_gives) (pc := 173) (c := 1) (L2 := [_, _, _, _, _, _, _]) dX8_gives_173 rfl ic_1 (Nat.le_of_ble_eq_true rfl) rfl rfl ?_
        refine r_goto (μ := mX8_gives) (pc := 176) (tgt := 6) dX8_gives_176 (by decide) ?_
        exact WP.L (by rw [ed, nI_succ]) (ih (k + 1) (by omega) _ (hS2 _ _) (by rw [ed, er, upI_self, hp2, hp1]; exact pl_bin hlen hp hdp))

theorem k_gives {d : Nat} {sh : List Sh} {mi : MI} {mr : MR} {a st : Nat} {s : Rw} {t : Nat} {f g h : Int32} {nm : Rw} {kt : Nat} (hX : TXT sh mi mr a s t) (hw : WFt s t) (hK : sh[st]? = some (0, 96)) (hst : st < 76) (hkt : s (80 + 200 * t) = nI kt) (hk3 : kt < 3) (hnm : ∀ pl, pl < nlen kt → nm (nmL kt pl) = na3 f g h pl) : CP (d + 1) mX8_gives [.ref a, .int f, .int g, .int h, .ref st] sh mi mr 0 0 (PX sh mr (fun r mi2 => r = givT s t nm ∧ SP st mi mi2)) := by
  obtain ⟨cc, k2, ⟨z1, z2⟩, ⟨hA, hC⟩, hcc, ⟨g1, g2, g3, g4⟩, hcd⟩ := hX
  obtain rfl : k2 = kt := (nI_eq (by omega) (by omega)).mp (g2.symm.trans hkt)
  refine CP.of (L := [_, _, _, _, _, _, _]) (by decide) rfl rfl (Nat.le_of_ble_eq_true rfl) ?_
  refine r_iconst (μ := mX8_gives) (pc := 0) (v := 0) dX8_gives_0 ic_0 ?_
  refine s_istore (μ := mX8_gives) (pc := 1) (L2 := [_, _, _, _, _, _, _]) dX8_gives_1 (Nat.le_of_ble_eq_true rfl) (Nat.le_of_ble_eq_true rfl) rfl rfl ?_
  refine r_iconst (μ := mX8_gives) (pc := 3) (v := 0) dX8_gives_3 ic_0 ?_
  refine s_istore (μ := mX8_gives) (pc := 4) (L2 := [_, _, _, _, _, _, _]) dX8_gives_4 (Nat.le_of_ble_eq_true rfl) (Nat.le_of_ble_eq_true rfl) rfl rfl ?_
  exact lp_gives hA hC hK hcc (by omega) hw.2.1 hw.2.2.1 hw.2.2.2 hcd hnm (fun mi2 h => PX_i ⟨rfl, h⟩) _ 0 (Nat.zero_add _) mi (SP.rf _ _) (fun i hi => absurd hi (Nat.not_lt_zero i))

